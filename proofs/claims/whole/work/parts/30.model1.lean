abbrev wMo (V : VT) (ad : Nat → Nat) (nw rw ps im kp tx sw sv da co pl me fa ao al : Nat → Int32) (de le ax ta ts tv se il : Int32) : va_W := [(ad 0, .inr (9, [.ref (ad 1), .ref (ad 2), .ref (ad 3), .int de, .ref (ad 4), .ref (ad 5), .ref (ad 6), .int le, .int ax, .int ta, .int ts, .int tv, .ref (ad 7), .ref (ad 8), .int se, .int il, .ref (ad 9), .ref (ad 10), .ref (ad 11), .ref (ad 12), .ref (ad 13), .ref (ad 14), .ref (ad 15)])), (ad 1, .inl (V.2.2 0, 99, .inl nw)), (ad 2, .inl (V.2.2 0, 99, .inl rw)), (ad 3, .inl (V.2.2 0, 594, .inl ps)), (ad 4, .inl (V.2.2 0, 198, .inl im)), (ad 5, .inl (V.2.2 1, 2, .inl kp)), (ad 6, .inl (V.2.2 0, 120, .inl tx)), (ad 7, .inl (V.2.2 0, 6, .inl sw)), (ad 8, .inl (V.2.2 0, 6, .inl sv)), (ad 9, .inl (V.2.2 0, 8, .inl da)), (ad 10, .inl (V.2.2 0, 8, .inl co)), (ad 11, .inl (V.2.2 0, 4, .inl pl)), (ad 12, .inl (V.2.2 1, 6, .inl me)), (ad 13, .inl (V.2.2 0, 6, .inl fa)), (ad 14, .inl (V.2.2 0, 99, .inl ao)), (ad 15, .inl (V.2.2 0, 42, .inl al))]
def brg (f g : Nat → Int32) (i j n : Nat) : Nat → Int32 := fl (fun k g => upd g (j + k) (f (i + k))) n g
abbrev hasB (c : Int32) (k : Nat) : Prop := (c >>> (nI k &&& 31)) &&& 1 = 1
def mOnes (c : Int32) (n : Nat) : Int32 := fl (fun k a => a + ((c >>> (nI k &&& 31)) &&& 1)) n 0
abbrev mLet (k : Int32) : Prop := k = 100 ∨ k = 122 ∨ k = 109 ∨ k = 114 ∨ k = 119 ∨ k = 120 ∨ k = 112 ∨ k = 115 ∨ k = 98
def mBeg (f : Nat → Int32) : Nat → Int32 := upd (upd (upd (rFill f 0 0 99) 2 3) 5 (-9)) 6 (-9)
/-- the model's value of a row of figures -/
def mN (L : Nat → Int32) (p n : Nat) : Int32 := fl (fun i a => if a ≤ 255 then 10 * a + L (p + i) - 48 else a) n 0
def mKd (L : Nat → Int32) (z p : Nat) : Int32 := if 255 < mN L p (tC L z p) ∨ (L p = 48 ∧ ¬ p + tC L z p ≤ p + 1) then 3 else 1
def mK (L : Nat → Int32) (z x : Nat) : Int32 := if tP L z x < z then (if tFg (L (tP L z x)) then mKd L z (tP L z x) else if mLet (L (tP L z x)) ∨ L (tP L z x) = 59 then L (tP L z x) else 3) else 2
def mV (L : Nat → Int32) (z x : Nat) (u : Int32) : Int32 := if tP L z x < z then (if tFg (L (tP L z x)) then mN L (tP L z x) (tC L z (tP L z x)) else u) else u
def rm_X9_in : Room := { frames := 0, cells := 0, slots := 0, locals := 0 }
set_option maxRecDepth 100000 in
set_option maxHeartbeats 4000000 in
theorem c_X9_in (V : VT) (v a b : Int32) : CI V yX9_in cX9_in 3 .boolean rm_X9_in [.int v, .int a, .int b] (([] : va_W)) (fun r_ w_ => r_ = bI (¬ v < a ∧ ¬ b < v) ∧ w_ = ([] : va_W)) := by
  refine CI_intro (by decide) (Nat.le_of_ble_eq_true rfl) (fun K cx hret => ?_)
  show G V K 3 0 0 (([] : va_W)) 0 [(0, .int v), (1, .int a), (2, .int b)] []
  refine g_iload_n (v := v) cx dX9_in_0 rfl ?_
  refine g_iload_n (v := a) cx dX9_in_1 rfl ?_
  refine g_icmp_lt cx 14 dX9_in_2 (by decide) (fun hw1 => ?_) (fun hw1 => ?_)
  · skip
    refine g_iconst (v := 0) cx dX9_in_14 (by decide) ?_
    exact hret _ _ _ _ dX9_in_15 (by first | rfl | exact rf_bnar) (⟨by simp only [bI, hw1, not_true_eq_false, not_false_eq_true, and_true, true_and, and_false, false_and, or_true, true_or, or_false, false_or, if_true, if_false], rfl⟩)
  · skip
    refine g_iload_n (v := v) cx dX9_in_5 rfl ?_
    refine g_iload_n (v := b) cx dX9_in_6 rfl ?_
    refine g_icmp_gt cx 14 dX9_in_7 (by decide) (fun hw2 => ?_) (fun hw2 => ?_)
    · skip
      refine g_iconst (v := 0) cx dX9_in_14 (by decide) ?_
      exact hret _ _ _ _ dX9_in_15 (by first | rfl | exact rf_bnar) (⟨by simp only [bI, hw1, hw2, not_true_eq_false, not_false_eq_true, and_true, true_and, and_false, false_and, or_true, true_or, or_false, false_or, if_true, if_false], rfl⟩)
    · skip
      refine g_iconst (v := 1) cx dX9_in_10 (by decide) ?_
      refine g_goto cx 15 dX9_in_11 (by decide) ?_
      exact hret _ _ _ _ dX9_in_15 (by first | rfl | exact rf_bnar) (⟨by simp only [bI, hw1, hw2, not_true_eq_false, not_false_eq_true, and_true, true_and, and_false, false_and, or_true, true_or, or_false, false_or, if_true, if_false], rfl⟩)
def rm_X9_has : Room := { frames := 0, cells := 0, slots := 0, locals := 0 }
set_option maxRecDepth 100000 in
set_option maxHeartbeats 4000000 in
theorem c_X9_has (V : VT) (c x : Int32) (k : Nat) (hx : x = nI k) : CI V yX9_has cX9_has 2 .boolean rm_X9_has [.int c, .int x] (([] : va_W)) (fun r_ w_ => r_ = bI (hasB c k) ∧ w_ = ([] : va_W)) := by
  refine CI_intro (by decide) (Nat.le_of_ble_eq_true rfl) (fun K cx hret => ?_)
  show G V K 2 0 0 (([] : va_W)) 0 [(0, .int c), (1, .int x)] []
  subst hx
  refine g_iload_n (v := c) cx dX9_has_0 rfl ?_
  refine g_iload_n (v := nI k) cx dX9_has_1 rfl ?_
  refine g_ishr cx dX9_has_2 ?_
  refine g_iconst (v := 1) cx dX9_has_3 (by decide) ?_
  refine g_iand cx dX9_has_4 ?_
  refine g_iconst (v := 1) cx dX9_has_5 (by decide) ?_
  refine g_icmp_ne cx 13 dX9_has_6 (by decide) (fun hw1 => ?_) (fun hw1 => ?_)
  · skip
    refine g_iconst (v := 0) cx dX9_has_13 (by decide) ?_
    exact hret _ _ _ _ dX9_has_14 (by first | rfl | exact rf_bnar) (⟨bI_f hw1, rfl⟩)
  · skip
    refine g_iconst (v := 1) cx dX9_has_9 (by decide) ?_
    refine g_goto cx 14 dX9_has_10 (by decide) ?_
    exact hret _ _ _ _ dX9_has_14 (by first | rfl | exact rf_bnar) (⟨bI_t hw1, rfl⟩)
def rm_X9_ones : Room := { frames := 0, cells := 0, slots := 0, locals := 0 }
set_option maxRecDepth 100000 in
set_option maxHeartbeats 4000000 in
theorem c_X9_ones (V : VT) (c : Int32) : CI V yX9_ones cX9_ones 3 .int rm_X9_ones [.int c] (([] : va_W)) (fun r_ w_ => r_ = mOnes c 8 ∧ w_ = ([] : va_W)) := by
  refine CI_intro (by decide) (Nat.le_of_ble_eq_true rfl) (fun K cx hret => ?_)
  show G V K 3 0 0 (([] : va_W)) 0 [(0, .int c)] []
  refine g_iconst (v := 0) cx dX9_ones_0 (by decide) ?_
  refine g_istore_n (lv' := [(0, .int c), (1, .int 0)]) cx dX9_ones_1 (by decide) rfl ?_
  refine g_iconst (v := 0) cx dX9_ones_2 (by decide) ?_
  refine g_istore_n (lv' := [(0, .int c), (1, .int 0), (2, .int 0)]) cx dX9_ones_3 (by decide) rfl ?_
  refine rf_dn (P := fun i1 => G V K 3 0 0 (([] : va_W)) 4 [(0, .int c), (1, .int (mOnes c i1)), (2, .int (nI i1))] []) (8) (fun i1 hi1 ihi1 => ?_) ?_
  · skip
    have h8 : i1 < 8 := hi1
    refine g_iload_n (v := nI i1) cx dX9_ones_4 rfl ?_
    refine g_bipush (v := 8) cx dX9_ones_5 (by decide) ?_
    refine g_icmp_ge cx 24 dX9_ones_7 (by decide) (fun hw1 => absurd hw1 (rf_geMN rfl (nl 8) (by omega) (by omega) (by omega))) (fun hw1 => ?_)
    refine g_iload_n (v := mOnes c i1) cx dX9_ones_10 rfl ?_
    refine g_iload_n (v := c) cx dX9_ones_11 rfl ?_
    refine g_iload_n (v := nI i1) cx dX9_ones_12 rfl ?_
    refine g_ishr cx dX9_ones_13 ?_
    refine g_iconst (v := 1) cx dX9_ones_14 (by decide) ?_
    refine g_iand cx dX9_ones_15 ?_
    refine g_iadd cx dX9_ones_16 ?_
    refine g_istore_n (lv' := [(0, .int c), (1, .int ((mOnes c i1) + ((c >>> ((nI i1) &&& 31)) &&& 1))), (2, .int (nI i1))]) cx dX9_ones_17 (by decide) rfl ?_
    refine g_iinc (x := nI i1) (v := nI (i1 + 1)) (lv' := [(0, .int c), (1, .int ((mOnes c i1) + ((c >>> ((nI i1) &&& 31)) &&& 1))), (2, .int (nI (i1 + 1)))]) cx dX9_ones_18 rfl (by decide) (nI_add _ _) rfl ?_
    refine g_goto cx 4 dX9_ones_21 (by decide) ?_
    exact ihi1
  · skip
    refine g_iload_n (v := nI 8) cx dX9_ones_4 rfl ?_
    refine g_bipush (v := 8) cx dX9_ones_5 (by decide) ?_
    refine g_icmp_ge cx 24 dX9_ones_7 (by decide) (fun hw2 => ?_) (fun hw2 => absurd (rf_geMP rfl (nl 8) (by omega) (by omega) (by omega)) hw2)
    refine g_iload_n (v := mOnes c 8) cx dX9_ones_24 rfl ?_
    exact hret _ _ _ _ dX9_ones_25 (rfl) ⟨rfl, rfl⟩
def rm_X9_isLetter : Room := { frames := 0, cells := 0, slots := 0, locals := 0 }
set_option maxRecDepth 100000 in
set_option maxHeartbeats 4000000 in
theorem c_X9_isLetter (V : VT) (c : Int32) : CI V yX9_isLetter cX9_isLetter 1 .boolean rm_X9_isLetter [.int c] (([] : va_W)) (fun r_ w_ => r_ = bI (mLet c) ∧ w_ = ([] : va_W)) := by
  refine CI_intro (by decide) (Nat.le_of_ble_eq_true rfl) (fun K cx hret => ?_)
  show G V K 1 0 0 (([] : va_W)) 0 [(0, .int c)] []
  refine g_iload_n (v := c) cx dX9_isLetter_0 rfl ?_
  refine g_bipush (v := 100) cx dX9_isLetter_1 (by decide) ?_
  refine g_icmp_eq cx 54 dX9_isLetter_3 (by decide) (fun hw1 => ?_) (fun hw1 => ?_)
  · skip
    refine g_iconst (v := 1) cx dX9_isLetter_54 (by decide) ?_
    refine g_goto cx 59 dX9_isLetter_55 (by decide) ?_
    exact hret _ _ _ _ dX9_isLetter_59 (by first | rfl | exact rf_bnar) (⟨by simp [bI, mLet, hw1], rfl⟩)
  · skip
    refine g_iload_n (v := c) cx dX9_isLetter_6 rfl ?_
    refine g_bipush (v := 122) cx dX9_isLetter_7 (by decide) ?_
    refine g_icmp_eq cx 54 dX9_isLetter_9 (by decide) (fun hw2 => ?_) (fun hw2 => ?_)
    · skip
      refine g_iconst (v := 1) cx dX9_isLetter_54 (by decide) ?_
      refine g_goto cx 59 dX9_isLetter_55 (by decide) ?_
      exact hret _ _ _ _ dX9_isLetter_59 (by first | rfl | exact rf_bnar) (⟨by simp [bI, mLet, hw1, hw2], rfl⟩)
    · skip
      refine g_iload_n (v := c) cx dX9_isLetter_12 rfl ?_
      refine g_bipush (v := 109) cx dX9_isLetter_13 (by decide) ?_
      refine g_icmp_eq cx 54 dX9_isLetter_15 (by decide) (fun hw3 => ?_) (fun hw3 => ?_)
      · skip
        refine g_iconst (v := 1) cx dX9_isLetter_54 (by decide) ?_
        refine g_goto cx 59 dX9_isLetter_55 (by decide) ?_
        exact hret _ _ _ _ dX9_isLetter_59 (by first | rfl | exact rf_bnar) (⟨by simp [bI, mLet, hw1, hw2, hw3], rfl⟩)
      · skip
        refine g_iload_n (v := c) cx dX9_isLetter_18 rfl ?_
        refine g_bipush (v := 114) cx dX9_isLetter_19 (by decide) ?_
        refine g_icmp_eq cx 54 dX9_isLetter_21 (by decide) (fun hw4 => ?_) (fun hw4 => ?_)
        · skip
          refine g_iconst (v := 1) cx dX9_isLetter_54 (by decide) ?_
          refine g_goto cx 59 dX9_isLetter_55 (by decide) ?_
          exact hret _ _ _ _ dX9_isLetter_59 (by first | rfl | exact rf_bnar) (⟨by simp [bI, mLet, hw1, hw2, hw3, hw4], rfl⟩)
        · skip
          refine g_iload_n (v := c) cx dX9_isLetter_24 rfl ?_
          refine g_bipush (v := 119) cx dX9_isLetter_25 (by decide) ?_
          refine g_icmp_eq cx 54 dX9_isLetter_27 (by decide) (fun hw5 => ?_) (fun hw5 => ?_)
          · skip
            refine g_iconst (v := 1) cx dX9_isLetter_54 (by decide) ?_
            refine g_goto cx 59 dX9_isLetter_55 (by decide) ?_
            exact hret _ _ _ _ dX9_isLetter_59 (by first | rfl | exact rf_bnar) (⟨by simp [bI, mLet, hw1, hw2, hw3, hw4, hw5], rfl⟩)
          · skip
            refine g_iload_n (v := c) cx dX9_isLetter_30 rfl ?_
            refine g_bipush (v := 120) cx dX9_isLetter_31 (by decide) ?_
            refine g_icmp_eq cx 54 dX9_isLetter_33 (by decide) (fun hw6 => ?_) (fun hw6 => ?_)
            · skip
              refine g_iconst (v := 1) cx dX9_isLetter_54 (by decide) ?_
              refine g_goto cx 59 dX9_isLetter_55 (by decide) ?_
              exact hret _ _ _ _ dX9_isLetter_59 (by first | rfl | exact rf_bnar) (⟨by simp [bI, mLet, hw1, hw2, hw3, hw4, hw5, hw6], rfl⟩)
            · skip
              refine g_iload_n (v := c) cx dX9_isLetter_36 rfl ?_
              refine g_bipush (v := 112) cx dX9_isLetter_37 (by decide) ?_
              refine g_icmp_eq cx 54 dX9_isLetter_39 (by decide) (fun hw7 => ?_) (fun hw7 => ?_)
              · skip
                refine g_iconst (v := 1) cx dX9_isLetter_54 (by decide) ?_
                refine g_goto cx 59 dX9_isLetter_55 (by decide) ?_
                exact hret _ _ _ _ dX9_isLetter_59 (by first | rfl | exact rf_bnar) (⟨by simp [bI, mLet, hw1, hw2, hw3, hw4, hw5, hw6, hw7], rfl⟩)
              · skip
                refine g_iload_n (v := c) cx dX9_isLetter_42 rfl ?_
                refine g_bipush (v := 115) cx dX9_isLetter_43 (by decide) ?_
                refine g_icmp_eq cx 54 dX9_isLetter_45 (by decide) (fun hw8 => ?_) (fun hw8 => ?_)
                · skip
                  refine g_iconst (v := 1) cx dX9_isLetter_54 (by decide) ?_
                  refine g_goto cx 59 dX9_isLetter_55 (by decide) ?_
                  exact hret _ _ _ _ dX9_isLetter_59 (by first | rfl | exact rf_bnar) (⟨by simp [bI, mLet, hw1, hw2, hw3, hw4, hw5, hw6, hw7, hw8], rfl⟩)
                · skip
                  refine g_iload_n (v := c) cx dX9_isLetter_48 rfl ?_
                  refine g_bipush (v := 98) cx dX9_isLetter_49 (by decide) ?_
                  refine g_icmp_ne cx 58 dX9_isLetter_51 (by decide) (fun hw9 => ?_) (fun hw9 => ?_)
                  · skip
                    refine g_iconst (v := 0) cx dX9_isLetter_58 (by decide) ?_
                    exact hret _ _ _ _ dX9_isLetter_59 (by first | rfl | exact rf_bnar) (⟨by simp [bI, mLet, hw1, hw2, hw3, hw4, hw5, hw6, hw7, hw8, hw9], rfl⟩)
                  · skip
                    refine g_iconst (v := 1) cx dX9_isLetter_54 (by decide) ?_
                    refine g_goto cx 59 dX9_isLetter_55 (by decide) ?_
                    exact hret _ _ _ _ dX9_isLetter_59 (by first | rfl | exact rf_bnar) (⟨by simp [bI, mLet, hw1, hw2, hw3, hw4, hw5, hw6, hw7, hw8, hw9], rfl⟩)
def rm_X9_bring : Room := { frames := 0, cells := 0, slots := 0, locals := 0 }
set_option maxRecDepth 100000 in
set_option maxHeartbeats 4000000 in
theorem c_X9_bring (V : VT) (a b na nb : Nat) (f g : Nat → Int32) (x y : Int32) (i j : Nat) (hx : x = nI i) (hy : y = nI j) (h1 : i + 99 ≤ na) (h2 : j + 99 ≤ nb) (h3 : na < 2147483648) (h4 : nb < 2147483648) : CV V yX9_bring cX9_bring 5 rm_X9_bring [.ref a, .int x, .ref b, .int y] (wArr V a na f ++ wArr V b nb g) (fun w_ => w_ = wArr V a na f ++ wArr V b nb (brg f g i j 99)) := by
  refine CV_intro (by decide) (Nat.le_of_ble_eq_true rfl) (fun K cx hci hret => ?_)
  show G V K 5 0 0 (wArr V a na f ++ wArr V b nb g) 0 [(0, .ref a), (1, .int x), (2, .ref b), (3, .int y)] []
  subst hx
  subst hy
  refine g_iconst (v := 0) cx dX9_bring_0 (by decide) ?_
  refine g_istore (lv' := [(0, .ref a), (1, .int (nI i)), (2, .ref b), (3, .int (nI j)), (4, .int 0)]) cx dX9_bring_1 (by decide) rfl ?_
  refine rf_dn (P := fun i1 => G V K 5 0 0 (wArr V a na f ++ wArr V b nb (brg f g i j i1)) 3 [(0, .ref a), (1, .int (nI i)), (2, .ref b), (3, .int (nI j)), (4, .int (nI i1))] []) (99) (fun i1 hi1 ihi1 => ?_) ?_
  · skip
    have h99 : i1 < 99 := hi1
    refine g_iload (v := nI i1) cx dX9_bring_3 rfl ?_
    refine g_bipush (v := 99) cx dX9_bring_5 (by decide) ?_
    refine g_icmp_ge cx 28 dX9_bring_7 (by decide) (fun hw1 => absurd hw1 (rf_geMN rfl (nl 99) (by omega) (by omega) (by omega))) (fun hw1 => ?_)
    refine g_aload_n (v := b) cx dX9_bring_10 rfl ?_
    refine g_iload_n (v := nI j) cx dX9_bring_11 rfl ?_
    refine g_iload (v := nI i1) cx dX9_bring_12 rfl ?_
    refine g_iadd cx dX9_bring_14 ?_
    refine g_aload_n (v := a) cx dX9_bring_15 rfl ?_
    refine g_iload_n (v := nI i) cx dX9_bring_16 rfl ?_
    refine g_iload (v := nI i1) cx dX9_bring_17 rfl ?_
    refine g_iadd cx dX9_bring_19 ?_
    refine g_iald cx dX9_bring_20 0 (i + i1) rfl (rf_add rfl rfl) (by omega) (by first | decide | omega) ?_
    refine g_top (y := f (i + i1)) (rfl) ?_
    refine g_iast (ws' := wArr V a na f ++ wArr V b nb (upd (brg f g i j i1) (j + i1) (f (i + i1)))) cx dX9_bring_21 1 (j + i1) rfl (rf_add rfl rfl) (by omega) (by first | decide | omega) rfl ?_
    refine g_iinc (x := nI i1) (v := nI (i1 + 1)) (lv' := [(0, .ref a), (1, .int (nI i)), (2, .ref b), (3, .int (nI j)), (4, .int (nI (i1 + 1)))]) cx dX9_bring_22 rfl (by decide) (nI_add _ _) rfl ?_
    refine g_goto cx 3 dX9_bring_25 (by decide) ?_
    exact ihi1
  · skip
    refine g_iload (v := nI 99) cx dX9_bring_3 rfl ?_
    refine g_bipush (v := 99) cx dX9_bring_5 (by decide) ?_
    refine g_icmp_ge cx 28 dX9_bring_7 (by decide) (fun hw2 => ?_) (fun hw2 => absurd (rf_geMP rfl (nl 99) (by omega) (by omega) (by omega)) hw2)
    exact hret _ _ _ dX9_bring_28 (rfl)
def rm_X9_beginRead : Room := { frames := 0, cells := 0, slots := 0, locals := 0 }
set_option maxRecDepth 100000 in
set_option maxHeartbeats 4000000 in
theorem c_X9_beginRead (V : VT) (ad : Nat → Nat) (nw rw ps im kp tx sw sv da co pl me fa ao al : Nat → Int32) (de le ax ta ts tv se il : Int32) : CV V yX9_beginRead cX9_beginRead 2 rm_X9_beginRead [.ref (ad 0)] (wMo V ad nw rw ps im kp tx sw sv da co pl me fa ao al de le ax ta ts tv se il) (fun w_ => w_ = wMo V ad nw (mBeg rw) ps im kp tx sw sv da co pl me fa ao al de le ax ta ts tv se il) := by
  refine CV_intro (by decide) (Nat.le_of_ble_eq_true rfl) (fun K cx hci hret => ?_)
  show G V K 2 0 0 (wMo V ad nw rw ps im kp tx sw sv da co pl me fa ao al de le ax ta ts tv se il) 0 [(0, .ref (ad 0))] []
  refine g_iconst (v := 0) cx dX9_beginRead_0 (by decide) ?_
  refine g_istore_n (lv' := [(0, .ref (ad 0)), (1, .int 0)]) cx dX9_beginRead_1 (by decide) rfl ?_
  refine rf_dn (P := fun i1 => G V K 2 0 0 (wMo V ad nw (rFill rw 0 0 i1) ps im kp tx sw sv da co pl me fa ao al de le ax ta ts tv se il) 2 [(0, .ref (ad 0)), (1, .int (nI i1))] []) (99) (fun i1 hi1 ihi1 => ?_) ?_
  · skip
    have h99 : i1 < 99 := hi1
    refine g_iload_n (v := nI i1) cx dX9_beginRead_2 rfl ?_
    refine g_bipush (v := 99) cx dX9_beginRead_3 (by decide) ?_
    refine g_icmp_ge cx 21 dX9_beginRead_5 (by decide) (fun hw1 => absurd hw1 (rf_geMN rfl (nl 99) (by omega) (by omega) (by omega))) (fun hw1 => ?_)
    refine g_aload_n (v := ad 0) cx dX9_beginRead_8 rfl ?_
    refine g_get (v := .ref (ad 2)) cx fk_X9_13 dX9_beginRead_9 0 rfl rfl ?_
    refine g_iload_n (v := nI i1) cx dX9_beginRead_12 rfl ?_
    refine g_iconst (v := 0) cx dX9_beginRead_13 (by decide) ?_
    refine g_iast (ws' := wMo V ad nw (upd (rFill rw 0 0 i1) (0 + i1) 0) ps im kp tx sw sv da co pl me fa ao al de le ax ta ts tv se il) cx dX9_beginRead_14 2 (0 + i1) rfl (by rw [Nat.zero_add]) (by omega) (by first | decide | omega) rfl ?_
    refine g_iinc (x := nI i1) (v := nI (i1 + 1)) (lv' := [(0, .ref (ad 0)), (1, .int (nI (i1 + 1)))]) cx dX9_beginRead_15 rfl (by decide) (nI_add _ _) rfl ?_
    refine g_goto cx 2 dX9_beginRead_18 (by decide) ?_
    exact ihi1
  · skip
    refine g_iload_n (v := nI 99) cx dX9_beginRead_2 rfl ?_
    refine g_bipush (v := 99) cx dX9_beginRead_3 (by decide) ?_
    refine g_icmp_ge cx 21 dX9_beginRead_5 (by decide) (fun hw2 => ?_) (fun hw2 => absurd (rf_geMP rfl (nl 99) (by omega) (by omega) (by omega)) hw2)
    refine g_aload_n (v := ad 0) cx dX9_beginRead_21 rfl ?_
    refine g_get (v := .ref (ad 2)) cx fk_X9_13 dX9_beginRead_22 0 rfl rfl ?_
    refine g_iconst (v := 2) cx dX9_beginRead_25 (by decide) ?_
    refine g_iconst (v := 3) cx dX9_beginRead_26 (by decide) ?_
    refine g_iast (ws' := wMo V ad nw (upd (rFill rw 0 0 99) 2 3) ps im kp tx sw sv da co pl me fa ao al de le ax ta ts tv se il) cx dX9_beginRead_27 2 2 rfl (nl 2) (by omega) (by first | decide | omega) rfl ?_
    refine g_aload_n (v := ad 0) cx dX9_beginRead_28 rfl ?_
    refine g_get (v := .ref (ad 2)) cx fk_X9_13 dX9_beginRead_29 0 rfl rfl ?_
    refine g_iconst (v := 5) cx dX9_beginRead_32 (by decide) ?_
    refine g_bipush (v := (-9)) cx dX9_beginRead_33 (by decide) ?_
    refine g_iast (ws' := wMo V ad nw (upd (upd (rFill rw 0 0 99) 2 3) 5 (-9)) ps im kp tx sw sv da co pl me fa ao al de le ax ta ts tv se il) cx dX9_beginRead_35 2 5 rfl (nl 5) (by omega) (by first | decide | omega) rfl ?_
    refine g_aload_n (v := ad 0) cx dX9_beginRead_36 rfl ?_
    refine g_get (v := .ref (ad 2)) cx fk_X9_13 dX9_beginRead_37 0 rfl rfl ?_
    refine g_bipush (v := 6) cx dX9_beginRead_40 (by decide) ?_
    refine g_bipush (v := (-9)) cx dX9_beginRead_42 (by decide) ?_
    refine g_iast (ws' := wMo V ad nw (upd (upd (upd (rFill rw 0 0 99) 2 3) 5 (-9)) 6 (-9)) ps im kp tx sw sv da co pl me fa ao al de le ax ta ts tv se il) cx dX9_beginRead_44 2 6 rfl (nl 6) (by omega) (by first | decide | omega) rfl ?_
    exact hret _ _ _ dX9_beginRead_45 (rfl)
def rm_X9_scan : Room := { frames := 1, cells := 0, slots := 0, locals := 22 }
set_option maxRecDepth 100000 in
set_option maxHeartbeats 4000000 in
theorem c_X9_scan (V : VT) (ad : Nat → Nat) (nw rw ps im kp tx sw sv da co pl me fa ao al : Nat → Int32) (de ta ts tv se il : Int32) (z : Nat) (x : Nat) (hz : z ≤ 120) (hx : x ≤ z) : CV V yX9_scan cX9_scan 2 rm_X9_scan [.ref (ad 0)] (wMo V ad nw rw ps im kp tx sw sv da co pl me fa ao al de (nI z) (nI x) ta ts tv se il) (fun w_ => w_ = wMo V ad nw rw ps im kp tx sw sv da co pl me fa ao al de (nI z) (nI (tX tx z x)) (nI (tP tx z x)) (mK tx z x) (mV tx z x tv) se il) := by
  refine CV_intro (by decide) (Nat.le_of_ble_eq_true rfl) (fun K cx hci hret => ?_)
  show G V K 2 0 0 (wMo V ad nw rw ps im kp tx sw sv da co pl me fa ao al de (nI z) (nI x) ta ts tv se il) 0 [(0, .ref (ad 0))] []
  refine rf_dn (P := fun i1 => G V K 2 0 0 (wMo V ad nw rw ps im kp tx sw sv da co pl me fa ao al de (nI z) (nI (x + i1)) ta ts tv se il) 0 [(0, .ref (ad 0))] []) (tQ tx z x) (fun i1 hi1 ihi1 => ?_) ?_
  · skip
    have hle := tQ_le tx z x
    have hno : tx (x + i1) = 32 := Decidable.of_not_not (of_decide_eq_false (ff_no (fun j => decide (¬ tx (x + j) = 32)) (z - x) i1 hi1))
    refine g_aload_n (v := ad 0) cx dX9_scan_0 rfl ?_
    refine g_get (v := .int (nI (x + i1))) cx fk_X9_63 dX9_scan_1 0 rfl rfl ?_
    refine g_aload_n (v := ad 0) cx dX9_scan_4 rfl ?_
    refine g_get (v := .int (nI z)) cx fk_X9_67 dX9_scan_5 0 rfl rfl ?_
    refine g_icmp_ge cx 38 dX9_scan_8 (by decide) (fun hw1 => absurd hw1 (rf_geMN rfl rfl (by omega) (by omega) (by omega))) (fun hw1 => ?_)
    refine g_aload_n (v := ad 0) cx dX9_scan_11 rfl ?_
    refine g_get (v := .ref (ad 6)) cx fk_X9_26 dX9_scan_12 0 rfl rfl ?_
    refine g_aload_n (v := ad 0) cx dX9_scan_15 rfl ?_
    refine g_get (v := .int (nI (x + i1))) cx fk_X9_63 dX9_scan_16 0 rfl rfl ?_
    refine g_iald cx dX9_scan_19 6 (x + i1) rfl (rfl) (by omega) (by first | decide | omega) ?_
    refine g_top (y := tx (x + i1)) (rfl) ?_
    refine g_bipush (v := 32) cx dX9_scan_20 (by decide) ?_
    refine g_icmp_ne cx 38 dX9_scan_22 (by decide) (fun hw2 => absurd (hno) hw2) (fun hw2 => ?_)
    refine g_aload_n (v := ad 0) cx dX9_scan_25 rfl ?_
    refine g_dup cx dX9_scan_26 rfl ?_
    refine g_get (v := .int (nI (x + i1))) cx fk_X9_63 dX9_scan_27 0 rfl rfl ?_
    refine g_iconst (v := 1) cx dX9_scan_30 (by decide) ?_
    refine g_iadd cx dX9_scan_31 ?_
    refine g_top (y := nI ((x + i1) + 1)) (rf_add rfl (nl 1)) ?_
    refine g_put (ws' := wMo V ad nw rw ps im kp tx sw sv da co pl me fa ao al de (nI z) (nI ((x + i1) + 1)) ta ts tv se il) cx fk_X9_63 dX9_scan_32 0 rfl (rfl) (rfl) (Nat.le_of_ble_eq_true rfl) rfl ?_
    refine g_goto cx 0 dX9_scan_35 (by decide) ?_
    exact ihi1
  · skip
    have hpz : tP tx z x ≤ z := tP_le hx
    rcases Nat.lt_or_ge (tQ tx z x) (z - x) with he | he
    · have hy : ¬ tx (tP tx z x) = 32 := of_decide_eq_true (ff_yes (fun j => decide (¬ tx (x + j) = 32)) (z - x) he)
      have hlt : tP tx z x < z := by unfold tP; omega
      refine g_aload_n (v := ad 0) cx dX9_scan_0 rfl ?_
      refine g_get (v := .int (nI (tP tx z x))) cx fk_X9_63 dX9_scan_1 0 rfl rfl ?_
      refine g_aload_n (v := ad 0) cx dX9_scan_4 rfl ?_
      refine g_get (v := .int (nI z)) cx fk_X9_67 dX9_scan_5 0 rfl rfl ?_
      refine g_icmp_ge cx 38 dX9_scan_8 (by decide) (fun hw3 => absurd hw3 (rf_geMN rfl rfl (by omega) (by omega) (by omega))) (fun hw3 => ?_)
      refine g_aload_n (v := ad 0) cx dX9_scan_11 rfl ?_
      refine g_get (v := .ref (ad 6)) cx fk_X9_26 dX9_scan_12 0 rfl rfl ?_
      refine g_aload_n (v := ad 0) cx dX9_scan_15 rfl ?_
      refine g_get (v := .int (nI (tP tx z x))) cx fk_X9_63 dX9_scan_16 0 rfl rfl ?_
      refine g_iald cx dX9_scan_19 6 (tP tx z x) rfl (rfl) (by omega) (by first | decide | omega) ?_
      refine g_top (y := tx (tP tx z x)) (rfl) ?_
      refine g_bipush (v := 32) cx dX9_scan_20 (by decide) ?_
      refine g_icmp_ne cx 38 dX9_scan_22 (by decide) (fun hw4 => ?_) (fun hw4 => absurd hw4 (hy))
      refine g_aload_n (v := ad 0) cx dX9_scan_38 rfl ?_
      refine g_aload_n (v := ad 0) cx dX9_scan_39 rfl ?_
      refine g_get (v := .int (nI (tP tx z x))) cx fk_X9_63 dX9_scan_40 0 rfl rfl ?_
      refine g_put (ws' := wMo V ad nw rw ps im kp tx sw sv da co pl me fa ao al de (nI z) (nI (tP tx z x)) (nI (tP tx z x)) ts tv se il) cx fk_X9_70 dX9_scan_43 0 rfl (rfl) (rfl) (Nat.le_of_ble_eq_true rfl) rfl ?_
      refine g_aload_n (v := ad 0) cx dX9_scan_46 rfl ?_
      refine g_get (v := .int (nI (tP tx z x))) cx fk_X9_63 dX9_scan_47 0 rfl rfl ?_
      refine g_aload_n (v := ad 0) cx dX9_scan_50 rfl ?_
      refine g_get (v := .int (nI z)) cx fk_X9_67 dX9_scan_51 0 rfl rfl ?_
      refine g_icmp_ge cx 69 dX9_scan_54 (by decide) (fun hw5 => absurd hw5 (rf_geMN rfl rfl (by omega) (by omega) (by omega))) (fun hw5 => ?_)
      refine g_aload_n (v := ad 0) cx dX9_scan_57 rfl ?_
      refine g_get (v := .ref (ad 6)) cx fk_X9_26 dX9_scan_58 0 rfl rfl ?_
      refine g_aload_n (v := ad 0) cx dX9_scan_61 rfl ?_
      refine g_get (v := .int (nI (tP tx z x))) cx fk_X9_63 dX9_scan_62 0 rfl rfl ?_
      refine g_iald cx dX9_scan_65 6 (tP tx z x) rfl (rfl) (by omega) (by first | decide | omega) ?_
      refine g_top (y := tx (tP tx z x)) (rfl) ?_
      refine g_goto cx 70 dX9_scan_66 (by decide) ?_
      refine g_istore_n (lv' := [(0, .ref (ad 0)), (1, .int (tx (tP tx z x)))]) cx dX9_scan_70 (by decide) rfl ?_
      refine g_aload_n (v := ad 0) cx dX9_scan_71 rfl ?_
      refine g_get (v := .int (nI (tP tx z x))) cx fk_X9_63 dX9_scan_72 0 rfl rfl ?_
      refine g_aload_n (v := ad 0) cx dX9_scan_75 rfl ?_
      refine g_get (v := .int (nI z)) cx fk_X9_67 dX9_scan_76 0 rfl rfl ?_
      refine g_icmp_ne cx 90 dX9_scan_79 (by decide) (fun hw6 => ?_) (fun hw6 => absurd hw6 (rf_eqMN rfl rfl (by omega) (by omega) (by omega)))
      refine g_iload_n (v := tx (tP tx z x)) cx dX9_scan_90 rfl ?_
      refine g_bipush (v := 48) cx dX9_scan_91 (by decide) ?_
      refine g_bipush (v := 57) cx dX9_scan_93 (by decide) ?_
      refine k_callsi (r0 := bI (¬ (tx (tP tx z x)) < 48 ∧ ¬ 57 < (tx (tP tx z x)))) (ws' := wMo V ad nw rw ps im kp tx sw sv da co pl me fa ao al de (nI z) (nI (tP tx z x)) (nI (tP tx z x)) ts tv se il) (As := [.int (tx (tP tx z x)), .int 48, .int 57]) (rest := []) cx (c_X9_in V (tx (tP tx z x)) 48 57) ml_X9_76 dX9_scan_95 [] rfl rfl [] rfl rfl rfl rfl rfl (Nat.le_of_ble_eq_true rfl) ⟨Nat.le_of_ble_eq_true rfl, Nat.le_of_ble_eq_true rfl⟩ ⟨Nat.le_refl _, Nat.le_refl _⟩ ?_
      refine g_if_eq_b cx 231 dX9_scan_98 (by decide) (fun hw7 => ?_) (fun hw7 => ?_)
      · skip
        refine g_aload_n (v := ad 0) cx dX9_scan_231 rfl ?_
        refine g_iload_n (v := tx (tP tx z x)) cx dX9_scan_232 rfl ?_
        refine k_callsi (r0 := bI (mLet (tx (tP tx z x)))) (ws' := wMo V ad nw rw ps im kp tx sw sv da co pl me fa ao al de (nI z) (nI (tP tx z x)) (nI (tP tx z x)) ts tv se il) (As := [.int (tx (tP tx z x))]) (rest := [.ref (ad 0)]) cx (c_X9_isLetter V (tx (tP tx z x))) ml_X9_83 dX9_scan_233 [] rfl rfl [] rfl rfl rfl rfl rfl (Nat.le_of_ble_eq_true rfl) ⟨Nat.le_of_ble_eq_true rfl, Nat.le_of_ble_eq_true rfl⟩ ⟨Nat.le_refl _, Nat.le_refl _⟩ ?_
        refine g_if_ne_b cx 245 dX9_scan_236 (by decide) (fun hw8 => ?_) (fun hw8 => ?_)
        · skip
          refine g_iload_n (v := tx (tP tx z x)) cx dX9_scan_245 rfl ?_
          refine g_goto cx 250 dX9_scan_246 (by decide) ?_
          refine g_put (ws' := wMo V ad nw rw ps im kp tx sw sv da co pl me fa ao al de (nI z) (nI (tP tx z x)) (nI (tP tx z x)) (tx (tP tx z x)) tv se il) cx fk_X9_73 dX9_scan_250 0 rfl (rfl) (rfl) (Nat.le_of_ble_eq_true rfl) rfl ?_
          refine g_aload_n (v := ad 0) cx dX9_scan_253 rfl ?_
          refine g_dup cx dX9_scan_254 rfl ?_
          refine g_get (v := .int (nI (tP tx z x))) cx fk_X9_63 dX9_scan_255 0 rfl rfl ?_
          refine g_iconst (v := 1) cx dX9_scan_258 (by decide) ?_
          refine g_iadd cx dX9_scan_259 ?_
          refine g_top (y := nI ((tP tx z x) + 1)) (rf_add rfl (nl 1)) ?_
          refine g_put (ws' := wMo V ad nw rw ps im kp tx sw sv da co pl me fa ao al de (nI z) (nI ((tP tx z x) + 1)) (nI (tP tx z x)) (tx (tP tx z x)) tv se il) cx fk_X9_63 dX9_scan_260 0 rfl (rfl) (rfl) (Nat.le_of_ble_eq_true rfl) rfl ?_
          exact hret _ _ _ dX9_scan_263 (by simp only [tX, mK, mV, if_pos hlt, if_neg hw7]; rw [if_pos (Or.inl hw8)])
        · skip
          refine g_iload_n (v := tx (tP tx z x)) cx dX9_scan_239 rfl ?_
          refine g_bipush (v := 59) cx dX9_scan_240 (by decide) ?_
          refine g_icmp_ne cx 249 dX9_scan_242 (by decide) (fun hw9 => ?_) (fun hw9 => ?_)
          · skip
            refine g_iconst (v := 3) cx dX9_scan_249 (by decide) ?_
            refine g_put (ws' := wMo V ad nw rw ps im kp tx sw sv da co pl me fa ao al de (nI z) (nI (tP tx z x)) (nI (tP tx z x)) 3 tv se il) cx fk_X9_73 dX9_scan_250 0 rfl (rfl) (rfl) (Nat.le_of_ble_eq_true rfl) rfl ?_
            refine g_aload_n (v := ad 0) cx dX9_scan_253 rfl ?_
            refine g_dup cx dX9_scan_254 rfl ?_
            refine g_get (v := .int (nI (tP tx z x))) cx fk_X9_63 dX9_scan_255 0 rfl rfl ?_
            refine g_iconst (v := 1) cx dX9_scan_258 (by decide) ?_
            refine g_iadd cx dX9_scan_259 ?_
            refine g_top (y := nI ((tP tx z x) + 1)) (rf_add rfl (nl 1)) ?_
            refine g_put (ws' := wMo V ad nw rw ps im kp tx sw sv da co pl me fa ao al de (nI z) (nI ((tP tx z x) + 1)) (nI (tP tx z x)) 3 tv se il) cx fk_X9_63 dX9_scan_260 0 rfl (rfl) (rfl) (Nat.le_of_ble_eq_true rfl) rfl ?_
            exact hret _ _ _ dX9_scan_263 (by simp only [tX, mK, mV, if_pos hlt, if_neg hw7]; rw [if_neg (by intro h; rcases h with h | h; exact hw8 h; exact hw9 h)])
          · skip
            refine g_iload_n (v := tx (tP tx z x)) cx dX9_scan_245 rfl ?_
            refine g_goto cx 250 dX9_scan_246 (by decide) ?_
            refine g_put (ws' := wMo V ad nw rw ps im kp tx sw sv da co pl me fa ao al de (nI z) (nI (tP tx z x)) (nI (tP tx z x)) (tx (tP tx z x)) tv se il) cx fk_X9_73 dX9_scan_250 0 rfl (rfl) (rfl) (Nat.le_of_ble_eq_true rfl) rfl ?_
            refine g_aload_n (v := ad 0) cx dX9_scan_253 rfl ?_
            refine g_dup cx dX9_scan_254 rfl ?_
            refine g_get (v := .int (nI (tP tx z x))) cx fk_X9_63 dX9_scan_255 0 rfl rfl ?_
            refine g_iconst (v := 1) cx dX9_scan_258 (by decide) ?_
            refine g_iadd cx dX9_scan_259 ?_
            refine g_top (y := nI ((tP tx z x) + 1)) (rf_add rfl (nl 1)) ?_
            refine g_put (ws' := wMo V ad nw rw ps im kp tx sw sv da co pl me fa ao al de (nI z) (nI ((tP tx z x) + 1)) (nI (tP tx z x)) (tx (tP tx z x)) tv se il) cx fk_X9_63 dX9_scan_260 0 rfl (rfl) (rfl) (Nat.le_of_ble_eq_true rfl) rfl ?_
            exact hret _ _ _ dX9_scan_263 (by simp only [tX, mK, mV, if_pos hlt, if_neg hw7]; rw [if_pos (Or.inr hw9)])
      · skip
        refine g_aload_n (v := ad 0) cx dX9_scan_101 rfl ?_
        refine g_iconst (v := 0) cx dX9_scan_102 (by decide) ?_
        refine g_put (ws' := wMo V ad nw rw ps im kp tx sw sv da co pl me fa ao al de (nI z) (nI (tP tx z x)) (nI (tP tx z x)) ts 0 se il) cx fk_X9_80 dX9_scan_103 0 rfl (rfl) (rfl) (Nat.le_of_ble_eq_true rfl) rfl ?_
        refine rf_dn (P := fun i2 => G V K 2 0 0 (wMo V ad nw rw ps im kp tx sw sv da co pl me fa ao al de (nI z) (nI (tP tx z x + i2)) (nI (tP tx z x)) ts (mN tx (tP tx z x) i2) se il) 106 [(0, .ref (ad 0)), (1, .int (tx (tP tx z x)))] []) (tC tx z (tP tx z x)) (fun i2 hi2 ihi2 => ?_) ?_
        · skip
          have hle2 := tC_le tx z (tP tx z x)
          have hno2 : tFg (tx (tP tx z x + i2)) := Decidable.of_not_not (of_decide_eq_false (ff_no (fun j => decide (¬ tFg (tx (tP tx z x + j)))) (z - tP tx z x) i2 hi2))
          refine g_aload_n (v := ad 0) cx dX9_scan_106 rfl ?_
          refine g_get (v := .int (nI (tP tx z x + i2))) cx fk_X9_63 dX9_scan_107 0 rfl rfl ?_
          refine g_aload_n (v := ad 0) cx dX9_scan_110 rfl ?_
          refine g_get (v := .int (nI z)) cx fk_X9_67 dX9_scan_111 0 rfl rfl ?_
          refine g_icmp_ge cx 190 dX9_scan_114 (by decide) (fun hw10 => absurd hw10 (rf_geMN rfl rfl (by omega) (by omega) (by omega))) (fun hw10 => ?_)
          refine g_aload_n (v := ad 0) cx dX9_scan_117 rfl ?_
          refine g_get (v := .ref (ad 6)) cx fk_X9_26 dX9_scan_118 0 rfl rfl ?_
          refine g_aload_n (v := ad 0) cx dX9_scan_121 rfl ?_
          refine g_get (v := .int (nI (tP tx z x + i2))) cx fk_X9_63 dX9_scan_122 0 rfl rfl ?_
          refine g_iald cx dX9_scan_125 6 (tP tx z x + i2) rfl (rfl) (by omega) (by first | decide | omega) ?_
          refine g_top (y := tx (tP tx z x + i2)) (rfl) ?_
          refine g_bipush (v := 48) cx dX9_scan_126 (by decide) ?_
          refine g_bipush (v := 57) cx dX9_scan_128 (by decide) ?_
          refine k_callsi (r0 := bI (¬ (tx (tP tx z x + i2)) < 48 ∧ ¬ 57 < (tx (tP tx z x + i2)))) (ws' := wMo V ad nw rw ps im kp tx sw sv da co pl me fa ao al de (nI z) (nI (tP tx z x + i2)) (nI (tP tx z x)) ts (mN tx (tP tx z x) i2) se il) (As := [.int (tx (tP tx z x + i2)), .int 48, .int 57]) (rest := []) cx (c_X9_in V (tx (tP tx z x + i2)) 48 57) ml_X9_76 dX9_scan_130 [] rfl rfl [] rfl rfl rfl rfl rfl (Nat.le_of_ble_eq_true rfl) ⟨Nat.le_of_ble_eq_true rfl, Nat.le_of_ble_eq_true rfl⟩ ⟨Nat.le_refl _, Nat.le_refl _⟩ ?_
          refine g_if_eq_b cx 190 dX9_scan_133 (by decide) (fun hw11 => absurd (hno2) hw11) (fun hw11 => ?_)
          refine g_aload_n (v := ad 0) cx dX9_scan_136 rfl ?_
          refine g_aload_n (v := ad 0) cx dX9_scan_137 rfl ?_
          refine g_get (v := .int (mN tx (tP tx z x) i2)) cx fk_X9_80 dX9_scan_138 0 rfl rfl ?_
          refine g_sipush (v := 255) cx dX9_scan_141 (by decide) ?_
          refine g_icmp_le cx 154 dX9_scan_144 (by decide) (fun hw12 => ?_) (fun hw12 => ?_)
          · skip
            refine g_bipush (v := 10) cx dX9_scan_154 (by decide) ?_
            refine g_aload_n (v := ad 0) cx dX9_scan_156 rfl ?_
            refine g_get (v := .int (mN tx (tP tx z x) i2)) cx fk_X9_80 dX9_scan_157 0 rfl rfl ?_
            refine g_imul cx dX9_scan_160 ?_
            refine g_aload_n (v := ad 0) cx dX9_scan_161 rfl ?_
            refine g_get (v := .ref (ad 6)) cx fk_X9_26 dX9_scan_162 0 rfl rfl ?_
            refine g_aload_n (v := ad 0) cx dX9_scan_165 rfl ?_
            refine g_get (v := .int (nI (tP tx z x + i2))) cx fk_X9_63 dX9_scan_166 0 rfl rfl ?_
            refine g_iald cx dX9_scan_169 6 (tP tx z x + i2) rfl (rfl) (by omega) (by first | decide | omega) ?_
            refine g_top (y := tx (tP tx z x + i2)) (rfl) ?_
            refine g_iadd cx dX9_scan_170 ?_
            refine g_bipush (v := 48) cx dX9_scan_171 (by decide) ?_
            refine g_isub cx dX9_scan_173 ?_
            refine g_put (ws' := wMo V ad nw rw ps im kp tx sw sv da co pl me fa ao al de (nI z) (nI (tP tx z x + i2)) (nI (tP tx z x)) ts (((10 * (mN tx (tP tx z x) i2)) + (tx (tP tx z x + i2))) - 48) se il) cx fk_X9_80 dX9_scan_174 0 rfl (rfl) (rfl) (Nat.le_of_ble_eq_true rfl) rfl ?_
            refine g_aload_n (v := ad 0) cx dX9_scan_177 rfl ?_
            refine g_dup cx dX9_scan_178 rfl ?_
            refine g_get (v := .int (nI (tP tx z x + i2))) cx fk_X9_63 dX9_scan_179 0 rfl rfl ?_
            refine g_iconst (v := 1) cx dX9_scan_182 (by decide) ?_
            refine g_iadd cx dX9_scan_183 ?_
            refine g_top (y := nI ((tP tx z x + i2) + 1)) (rf_add rfl (nl 1)) ?_
            refine g_put (ws' := wMo V ad nw rw ps im kp tx sw sv da co pl me fa ao al de (nI z) (nI ((tP tx z x + i2) + 1)) (nI (tP tx z x)) ts (((10 * (mN tx (tP tx z x) i2)) + (tx (tP tx z x + i2))) - 48) se il) cx fk_X9_63 dX9_scan_184 0 rfl (rfl) (rfl) (Nat.le_of_ble_eq_true rfl) rfl ?_
            refine g_goto cx 106 dX9_scan_187 (by decide) ?_
            rw [show mN tx (tP tx z x) (i2 + 1) = if mN tx (tP tx z x) i2 ≤ 255 then 10 * mN tx (tP tx z x) i2 + tx (tP tx z x + i2) - 48 else mN tx (tP tx z x) i2 from rfl, if_pos hw12] at ihi2
            exact ihi2
          · skip
            refine g_aload_n (v := ad 0) cx dX9_scan_147 rfl ?_
            refine g_get (v := .int (mN tx (tP tx z x) i2)) cx fk_X9_80 dX9_scan_148 0 rfl rfl ?_
            refine g_goto cx 174 dX9_scan_151 (by decide) ?_
            refine g_put (ws' := wMo V ad nw rw ps im kp tx sw sv da co pl me fa ao al de (nI z) (nI (tP tx z x + i2)) (nI (tP tx z x)) ts (mN tx (tP tx z x) i2) se il) cx fk_X9_80 dX9_scan_174 0 rfl (rfl) (rfl) (Nat.le_of_ble_eq_true rfl) rfl ?_
            refine g_aload_n (v := ad 0) cx dX9_scan_177 rfl ?_
            refine g_dup cx dX9_scan_178 rfl ?_
            refine g_get (v := .int (nI (tP tx z x + i2))) cx fk_X9_63 dX9_scan_179 0 rfl rfl ?_
            refine g_iconst (v := 1) cx dX9_scan_182 (by decide) ?_
            refine g_iadd cx dX9_scan_183 ?_
            refine g_top (y := nI ((tP tx z x + i2) + 1)) (rf_add rfl (nl 1)) ?_
            refine g_put (ws' := wMo V ad nw rw ps im kp tx sw sv da co pl me fa ao al de (nI z) (nI ((tP tx z x + i2) + 1)) (nI (tP tx z x)) ts (mN tx (tP tx z x) i2) se il) cx fk_X9_63 dX9_scan_184 0 rfl (rfl) (rfl) (Nat.le_of_ble_eq_true rfl) rfl ?_
            refine g_goto cx 106 dX9_scan_187 (by decide) ?_
            rw [show mN tx (tP tx z x) (i2 + 1) = if mN tx (tP tx z x) i2 ≤ 255 then 10 * mN tx (tP tx z x) i2 + tx (tP tx z x + i2) - 48 else mN tx (tP tx z x) i2 from rfl, if_neg hw12] at ihi2
            exact ihi2
        · skip
          have hle2 := tC_le tx z (tP tx z x)
          rcases Nat.lt_or_ge (tC tx z (tP tx z x)) (z - tP tx z x) with hf | hf
          · have hy2 : ¬ tFg (tx (tP tx z x + tC tx z (tP tx z x))) := of_decide_eq_true (ff_yes (fun j => decide (¬ tFg (tx (tP tx z x + j)))) (z - tP tx z x) hf)
            refine g_aload_n (v := ad 0) cx dX9_scan_106 rfl ?_
            refine g_get (v := .int (nI (tP tx z x + tC tx z (tP tx z x)))) cx fk_X9_63 dX9_scan_107 0 rfl rfl ?_
            refine g_aload_n (v := ad 0) cx dX9_scan_110 rfl ?_
            refine g_get (v := .int (nI z)) cx fk_X9_67 dX9_scan_111 0 rfl rfl ?_
            refine g_icmp_ge cx 190 dX9_scan_114 (by decide) (fun hw13 => absurd hw13 (rf_geMN rfl rfl (by omega) (by omega) (by omega))) (fun hw13 => ?_)
            refine g_aload_n (v := ad 0) cx dX9_scan_117 rfl ?_
            refine g_get (v := .ref (ad 6)) cx fk_X9_26 dX9_scan_118 0 rfl rfl ?_
            refine g_aload_n (v := ad 0) cx dX9_scan_121 rfl ?_
            refine g_get (v := .int (nI (tP tx z x + tC tx z (tP tx z x)))) cx fk_X9_63 dX9_scan_122 0 rfl rfl ?_
            refine g_iald cx dX9_scan_125 6 (tP tx z x + tC tx z (tP tx z x)) rfl (rfl) (by omega) (by first | decide | omega) ?_
            refine g_top (y := tx (tP tx z x + tC tx z (tP tx z x))) (rfl) ?_
            refine g_bipush (v := 48) cx dX9_scan_126 (by decide) ?_
            refine g_bipush (v := 57) cx dX9_scan_128 (by decide) ?_
            refine k_callsi (r0 := bI (¬ (tx (tP tx z x + tC tx z (tP tx z x))) < 48 ∧ ¬ 57 < (tx (tP tx z x + tC tx z (tP tx z x))))) (ws' := wMo V ad nw rw ps im kp tx sw sv da co pl me fa ao al de (nI z) (nI (tP tx z x + tC tx z (tP tx z x))) (nI (tP tx z x)) ts (mN tx (tP tx z x) (tC tx z (tP tx z x))) se il) (As := [.int (tx (tP tx z x + tC tx z (tP tx z x))), .int 48, .int 57]) (rest := []) cx (c_X9_in V (tx (tP tx z x + tC tx z (tP tx z x))) 48 57) ml_X9_76 dX9_scan_130 [] rfl rfl [] rfl rfl rfl rfl rfl (Nat.le_of_ble_eq_true rfl) ⟨Nat.le_of_ble_eq_true rfl, Nat.le_of_ble_eq_true rfl⟩ ⟨Nat.le_refl _, Nat.le_refl _⟩ ?_
            refine g_if_eq_b cx 190 dX9_scan_133 (by decide) (fun hw14 => ?_) (fun hw14 => absurd hw14 (hy2))
            refine g_aload_n (v := ad 0) cx dX9_scan_190 rfl ?_
            refine g_aload_n (v := ad 0) cx dX9_scan_191 rfl ?_
            refine g_get (v := .int (mN tx (tP tx z x) (tC tx z (tP tx z x)))) cx fk_X9_80 dX9_scan_192 0 rfl rfl ?_
            refine g_sipush (v := 255) cx dX9_scan_195 (by decide) ?_
            refine g_icmp_gt cx 220 dX9_scan_198 (by decide) (fun hw15 => ?_) (fun hw15 => ?_)
            · skip
              refine g_iconst (v := 3) cx dX9_scan_220 (by decide) ?_
              refine g_goto cx 225 dX9_scan_221 (by decide) ?_
              refine g_put (ws' := wMo V ad nw rw ps im kp tx sw sv da co pl me fa ao al de (nI z) (nI (tP tx z x + tC tx z (tP tx z x))) (nI (tP tx z x)) 3 (mN tx (tP tx z x) (tC tx z (tP tx z x))) se il) cx fk_X9_73 dX9_scan_225 0 rfl (rfl) (rfl) (Nat.le_of_ble_eq_true rfl) rfl ?_
              refine g_goto cx 263 dX9_scan_228 (by decide) ?_
              exact hret _ _ _ dX9_scan_263 (by simp only [tX, mK, mV, mKd, if_pos hlt, if_pos hw7]; rw [if_pos (Or.inl hw15)])
            · skip
              refine g_iload_n (v := tx (tP tx z x)) cx dX9_scan_201 rfl ?_
              refine g_bipush (v := 48) cx dX9_scan_202 (by decide) ?_
              refine g_icmp_ne cx 224 dX9_scan_204 (by decide) (fun hw16 => ?_) (fun hw16 => ?_)
              · skip
                refine g_iconst (v := 1) cx dX9_scan_224 (by decide) ?_
                refine g_put (ws' := wMo V ad nw rw ps im kp tx sw sv da co pl me fa ao al de (nI z) (nI (tP tx z x + tC tx z (tP tx z x))) (nI (tP tx z x)) 1 (mN tx (tP tx z x) (tC tx z (tP tx z x))) se il) cx fk_X9_73 dX9_scan_225 0 rfl (rfl) (rfl) (Nat.le_of_ble_eq_true rfl) rfl ?_
                refine g_goto cx 263 dX9_scan_228 (by decide) ?_
                exact hret _ _ _ dX9_scan_263 (by simp only [tX, mK, mV, mKd, if_pos hlt, if_pos hw7]; rw [if_neg (by intro h; rcases h with h | h; exact hw15 h; exact hw16 h.1)])
              · skip
                refine g_aload_n (v := ad 0) cx dX9_scan_207 rfl ?_
                refine g_get (v := .int (nI (tP tx z x + tC tx z (tP tx z x)))) cx fk_X9_63 dX9_scan_208 0 rfl rfl ?_
                refine g_aload_n (v := ad 0) cx dX9_scan_211 rfl ?_
                refine g_get (v := .int (nI (tP tx z x))) cx fk_X9_70 dX9_scan_212 0 rfl rfl ?_
                refine g_iconst (v := 1) cx dX9_scan_215 (by decide) ?_
                refine g_iadd cx dX9_scan_216 ?_
                refine g_top (y := nI ((tP tx z x) + 1)) (rf_add rfl (nl 1)) ?_
                refine g_icmp_le cx 224 dX9_scan_217 (by decide) (fun hw17 => ?_) (fun hw17 => ?_)
                · have hw17 := rf_leP rfl rfl (by omega) (by omega) hw17
                  refine g_iconst (v := 1) cx dX9_scan_224 (by decide) ?_
                  refine g_put (ws' := wMo V ad nw rw ps im kp tx sw sv da co pl me fa ao al de (nI z) (nI (tP tx z x + tC tx z (tP tx z x))) (nI (tP tx z x)) 1 (mN tx (tP tx z x) (tC tx z (tP tx z x))) se il) cx fk_X9_73 dX9_scan_225 0 rfl (rfl) (rfl) (Nat.le_of_ble_eq_true rfl) rfl ?_
                  refine g_goto cx 263 dX9_scan_228 (by decide) ?_
                  exact hret _ _ _ dX9_scan_263 (by simp only [tX, mK, mV, mKd, if_pos hlt, if_pos hw7]; rw [if_neg (by intro h; rcases h with h | h; exact hw15 h; exact h.2 hw17)])
                · have hw17 := rf_leN rfl rfl (by omega) (by omega) hw17
                  refine g_iconst (v := 3) cx dX9_scan_220 (by decide) ?_
                  refine g_goto cx 225 dX9_scan_221 (by decide) ?_
                  refine g_put (ws' := wMo V ad nw rw ps im kp tx sw sv da co pl me fa ao al de (nI z) (nI (tP tx z x + tC tx z (tP tx z x))) (nI (tP tx z x)) 3 (mN tx (tP tx z x) (tC tx z (tP tx z x))) se il) cx fk_X9_73 dX9_scan_225 0 rfl (rfl) (rfl) (Nat.le_of_ble_eq_true rfl) rfl ?_
                  refine g_goto cx 263 dX9_scan_228 (by decide) ?_
                  exact hret _ _ _ dX9_scan_263 (by simp only [tX, mK, mV, mKd, if_pos hlt, if_pos hw7]; rw [if_pos (Or.inr ⟨hw16, hw17⟩)])
          · have hf2 : tC tx z (tP tx z x) = z - tP tx z x := Nat.le_antisymm (tC_le tx z _) hf
            refine g_aload_n (v := ad 0) cx dX9_scan_106 rfl ?_
            refine g_get (v := .int (nI (tP tx z x + tC tx z (tP tx z x)))) cx fk_X9_63 dX9_scan_107 0 rfl rfl ?_
            refine g_aload_n (v := ad 0) cx dX9_scan_110 rfl ?_
            refine g_get (v := .int (nI z)) cx fk_X9_67 dX9_scan_111 0 rfl rfl ?_
            refine g_icmp_ge cx 190 dX9_scan_114 (by decide) (fun hw18 => ?_) (fun hw18 => absurd (rf_geMP rfl rfl (by omega) (by omega) (by omega)) hw18)
            refine g_aload_n (v := ad 0) cx dX9_scan_190 rfl ?_
            refine g_aload_n (v := ad 0) cx dX9_scan_191 rfl ?_
            refine g_get (v := .int (mN tx (tP tx z x) (tC tx z (tP tx z x)))) cx fk_X9_80 dX9_scan_192 0 rfl rfl ?_
            refine g_sipush (v := 255) cx dX9_scan_195 (by decide) ?_
            refine g_icmp_gt cx 220 dX9_scan_198 (by decide) (fun hw19 => ?_) (fun hw19 => ?_)
            · skip
              refine g_iconst (v := 3) cx dX9_scan_220 (by decide) ?_
              refine g_goto cx 225 dX9_scan_221 (by decide) ?_
              refine g_put (ws' := wMo V ad nw rw ps im kp tx sw sv da co pl me fa ao al de (nI z) (nI (tP tx z x + tC tx z (tP tx z x))) (nI (tP tx z x)) 3 (mN tx (tP tx z x) (tC tx z (tP tx z x))) se il) cx fk_X9_73 dX9_scan_225 0 rfl (rfl) (rfl) (Nat.le_of_ble_eq_true rfl) rfl ?_
              refine g_goto cx 263 dX9_scan_228 (by decide) ?_
              exact hret _ _ _ dX9_scan_263 (by simp only [tX, mK, mV, mKd, if_pos hlt, if_pos hw7]; rw [if_pos (Or.inl hw19)])
            · skip
              refine g_iload_n (v := tx (tP tx z x)) cx dX9_scan_201 rfl ?_
              refine g_bipush (v := 48) cx dX9_scan_202 (by decide) ?_
              refine g_icmp_ne cx 224 dX9_scan_204 (by decide) (fun hw20 => ?_) (fun hw20 => ?_)
              · skip
                refine g_iconst (v := 1) cx dX9_scan_224 (by decide) ?_
                refine g_put (ws' := wMo V ad nw rw ps im kp tx sw sv da co pl me fa ao al de (nI z) (nI (tP tx z x + tC tx z (tP tx z x))) (nI (tP tx z x)) 1 (mN tx (tP tx z x) (tC tx z (tP tx z x))) se il) cx fk_X9_73 dX9_scan_225 0 rfl (rfl) (rfl) (Nat.le_of_ble_eq_true rfl) rfl ?_
                refine g_goto cx 263 dX9_scan_228 (by decide) ?_
                exact hret _ _ _ dX9_scan_263 (by simp only [tX, mK, mV, mKd, if_pos hlt, if_pos hw7]; rw [if_neg (by intro h; rcases h with h | h; exact hw19 h; exact hw20 h.1)])
              · skip
                refine g_aload_n (v := ad 0) cx dX9_scan_207 rfl ?_
                refine g_get (v := .int (nI (tP tx z x + tC tx z (tP tx z x)))) cx fk_X9_63 dX9_scan_208 0 rfl rfl ?_
                refine g_aload_n (v := ad 0) cx dX9_scan_211 rfl ?_
                refine g_get (v := .int (nI (tP tx z x))) cx fk_X9_70 dX9_scan_212 0 rfl rfl ?_
                refine g_iconst (v := 1) cx dX9_scan_215 (by decide) ?_
                refine g_iadd cx dX9_scan_216 ?_
                refine g_top (y := nI ((tP tx z x) + 1)) (rf_add rfl (nl 1)) ?_
                refine g_icmp_le cx 224 dX9_scan_217 (by decide) (fun hw21 => ?_) (fun hw21 => ?_)
                · have hw21 := rf_leP rfl rfl (by omega) (by omega) hw21
                  refine g_iconst (v := 1) cx dX9_scan_224 (by decide) ?_
                  refine g_put (ws' := wMo V ad nw rw ps im kp tx sw sv da co pl me fa ao al de (nI z) (nI (tP tx z x + tC tx z (tP tx z x))) (nI (tP tx z x)) 1 (mN tx (tP tx z x) (tC tx z (tP tx z x))) se il) cx fk_X9_73 dX9_scan_225 0 rfl (rfl) (rfl) (Nat.le_of_ble_eq_true rfl) rfl ?_
                  refine g_goto cx 263 dX9_scan_228 (by decide) ?_
                  exact hret _ _ _ dX9_scan_263 (by simp only [tX, mK, mV, mKd, if_pos hlt, if_pos hw7]; rw [if_neg (by intro h; rcases h with h | h; exact hw19 h; exact h.2 hw21)])
                · have hw21 := rf_leN rfl rfl (by omega) (by omega) hw21
                  refine g_iconst (v := 3) cx dX9_scan_220 (by decide) ?_
                  refine g_goto cx 225 dX9_scan_221 (by decide) ?_
                  refine g_put (ws' := wMo V ad nw rw ps im kp tx sw sv da co pl me fa ao al de (nI z) (nI (tP tx z x + tC tx z (tP tx z x))) (nI (tP tx z x)) 3 (mN tx (tP tx z x) (tC tx z (tP tx z x))) se il) cx fk_X9_73 dX9_scan_225 0 rfl (rfl) (rfl) (Nat.le_of_ble_eq_true rfl) rfl ?_
                  refine g_goto cx 263 dX9_scan_228 (by decide) ?_
                  exact hret _ _ _ dX9_scan_263 (by simp only [tX, mK, mV, mKd, if_pos hlt, if_pos hw7]; rw [if_pos (Or.inr ⟨hw20, hw21⟩)])
    · have he2 : tP tx z x = z := by have := tQ_le tx z x; unfold tP; omega
      have hlt : ¬ tP tx z x < z := by omega
      refine g_aload_n (v := ad 0) cx dX9_scan_0 rfl ?_
      refine g_get (v := .int (nI (tP tx z x))) cx fk_X9_63 dX9_scan_1 0 rfl rfl ?_
      refine g_aload_n (v := ad 0) cx dX9_scan_4 rfl ?_
      refine g_get (v := .int (nI z)) cx fk_X9_67 dX9_scan_5 0 rfl rfl ?_
      refine g_icmp_ge cx 38 dX9_scan_8 (by decide) (fun hw22 => ?_) (fun hw22 => absurd (rf_geMP rfl rfl (by omega) (by omega) (by omega)) hw22)
      refine g_aload_n (v := ad 0) cx dX9_scan_38 rfl ?_
      refine g_aload_n (v := ad 0) cx dX9_scan_39 rfl ?_
      refine g_get (v := .int (nI (tP tx z x))) cx fk_X9_63 dX9_scan_40 0 rfl rfl ?_
      refine g_put (ws' := wMo V ad nw rw ps im kp tx sw sv da co pl me fa ao al de (nI z) (nI (tP tx z x)) (nI (tP tx z x)) ts tv se il) cx fk_X9_70 dX9_scan_43 0 rfl (rfl) (rfl) (Nat.le_of_ble_eq_true rfl) rfl ?_
      refine g_aload_n (v := ad 0) cx dX9_scan_46 rfl ?_
      refine g_get (v := .int (nI (tP tx z x))) cx fk_X9_63 dX9_scan_47 0 rfl rfl ?_
      refine g_aload_n (v := ad 0) cx dX9_scan_50 rfl ?_
      refine g_get (v := .int (nI z)) cx fk_X9_67 dX9_scan_51 0 rfl rfl ?_
      refine g_icmp_ge cx 69 dX9_scan_54 (by decide) (fun hw23 => ?_) (fun hw23 => absurd (rf_geMP rfl rfl (by omega) (by omega) (by omega)) hw23)
      refine g_iconst (v := 0) cx dX9_scan_69 (by decide) ?_
      refine g_istore_n (lv' := [(0, .ref (ad 0)), (1, .int 0)]) cx dX9_scan_70 (by decide) rfl ?_
      refine g_aload_n (v := ad 0) cx dX9_scan_71 rfl ?_
      refine g_get (v := .int (nI (tP tx z x))) cx fk_X9_63 dX9_scan_72 0 rfl rfl ?_
      refine g_aload_n (v := ad 0) cx dX9_scan_75 rfl ?_
      refine g_get (v := .int (nI z)) cx fk_X9_67 dX9_scan_76 0 rfl rfl ?_
      refine g_icmp_ne cx 90 dX9_scan_79 (by decide) (fun hw24 => absurd (rf_eqMP rfl rfl (by omega) (by omega) (by omega)) hw24) (fun hw24 => ?_)
      refine g_aload_n (v := ad 0) cx dX9_scan_82 rfl ?_
      refine g_iconst (v := 2) cx dX9_scan_83 (by decide) ?_
      refine g_put (ws' := wMo V ad nw rw ps im kp tx sw sv da co pl me fa ao al de (nI z) (nI (tP tx z x)) (nI (tP tx z x)) 2 tv se il) cx fk_X9_73 dX9_scan_84 0 rfl (rfl) (rfl) (Nat.le_of_ble_eq_true rfl) rfl ?_
      refine g_goto cx 263 dX9_scan_87 (by decide) ?_
      exact hret _ _ _ dX9_scan_263 (by simp only [tX, mK, mV, if_neg hlt])
