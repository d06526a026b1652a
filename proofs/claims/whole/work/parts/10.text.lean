/-- a figure -/
abbrev tFg (c : Int32) : Prop := ¬ c < 48 ∧ ¬ 57 < c
/-- the place of the next token, from x on, in a text of z letters -/
def tQ (L : Nat → Int32) (z x : Nat) : Nat := ff (fun j => decide (¬ L (x + j) = 32)) (z - x)
def tP (L : Nat → Int32) (z x : Nat) : Nat := x + tQ L z x
/-- how many figures from p on -/
def tC (L : Nat → Int32) (z p : Nat) : Nat := ff (fun j => decide (¬ tFg (L (p + j)))) (z - p)
def tN (L : Nat → Int32) (p n : Nat) : Int32 := fl (fun i a => if 256 < 10 * a + L (p + i) - 48 then 256 else 10 * a + L (p + i) - 48) n 0
def tKd (L : Nat → Int32) (z p : Nat) : Int32 := if L p = 48 ∧ ¬ tC L z p ≤ 1 then 258 else if tN L p (tC L z p) ≤ 255 then 256 else 258
def tX (L : Nat → Int32) (z x : Nat) : Nat := if tP L z x < z then (if tFg (L (tP L z x)) then tP L z x + tC L z (tP L z x) else tP L z x + 1) else tP L z x
def tK (L : Nat → Int32) (z x : Nat) : Int32 := if tP L z x < z then (if tFg (L (tP L z x)) then tKd L z (tP L z x) else L (tP L z x)) else 257
def tV (L : Nat → Int32) (z x : Nat) (u : Int32) : Int32 := if tP L z x < z then (if tFg (L (tP L z x)) then tN L (tP L z x) (tC L z (tP L z x)) else u) else u
theorem tQ_le (L : Nat → Int32) (z x : Nat) : tQ L z x ≤ z - x := ff_le _ _
theorem tP_le {L : Nat → Int32} {z x : Nat} (h : x ≤ z) : tP L z x ≤ z := by have := tQ_le L z x; unfold tP; omega
theorem tC_le (L : Nat → Int32) (z p : Nat) : tC L z p ≤ z - p := ff_le _ _
theorem tX_le {L : Nat → Int32} {z x : Nat} (h : x ≤ z) : tX L z x ≤ z := by
  have h1 := tP_le (L := L) h
  have h2 := tC_le L z (tP L z x)
  unfold tX
  split
  · split <;> omega
  · exact h1
def rm_X7_append : Room := { frames := 0, cells := 0, slots := 0, locals := 0 }
set_option maxRecDepth 100000 in
set_option maxHeartbeats 4000000 in
theorem c_X7_append (V : VT) (td : Nat → Nat) (L : Nat → Int32) (z : Nat) (b c d u l : Int32) (hz : z < 120) : CV V yX7_append cX7_append 2 rm_X7_append [.ref (td 0), .int l] (wTx V td L (nI z) b c d u) (fun w_ => w_ = wTx V td (upd L z l) (nI (z + 1)) b c d u) := by
  refine CV_intro (by decide) (Nat.le_of_ble_eq_true rfl) (fun K cx hci hret => ?_)
  show G V K 2 0 0 (wTx V td L (nI z) b c d u) 0 [(0, .ref (td 0)), (1, .int l)] []
  refine g_aload_n (v := td 0) cx dX7_append_0 rfl ?_
  refine g_get (v := .int (nI z)) cx fk_X7_15 dX7_append_1 0 rfl rfl ?_
  refine g_bipush (v := 120) cx dX7_append_4 (by decide) ?_
  refine g_icmp_ge cx 29 dX7_append_6 (by decide) (fun hw1 => absurd hw1 (rf_geMN rfl (nl 120) (by omega) (by omega) (by omega))) (fun hw1 => ?_)
  refine g_aload_n (v := td 0) cx dX7_append_9 rfl ?_
  refine g_get (v := .ref (td 1)) cx fk_X7_9 dX7_append_10 0 rfl rfl ?_
  refine g_aload_n (v := td 0) cx dX7_append_13 rfl ?_
  refine g_get (v := .int (nI z)) cx fk_X7_15 dX7_append_14 0 rfl rfl ?_
  refine g_iload_n (v := l) cx dX7_append_17 rfl ?_
  refine g_iast (ws' := wTx V td (upd L z l) (nI z) b c d u) cx dX7_append_18 1 z rfl (rfl) (by omega) (by first | decide | omega) rfl ?_
  refine g_aload_n (v := td 0) cx dX7_append_19 rfl ?_
  refine g_dup cx dX7_append_20 rfl ?_
  refine g_get (v := .int (nI z)) cx fk_X7_15 dX7_append_21 0 rfl rfl ?_
  refine g_iconst (v := 1) cx dX7_append_24 (by decide) ?_
  refine g_iadd cx dX7_append_25 ?_
  refine g_top (y := nI (z + 1)) (rf_add rfl (nl 1)) ?_
  refine g_put (ws' := wTx V td (upd L z l) (nI (z + 1)) b c d u) cx fk_X7_15 dX7_append_26 0 rfl (rfl) (rfl) (Nat.le_of_ble_eq_true rfl) rfl ?_
  exact hret _ _ _ dX7_append_29 (rfl)
def rm_X7_isFigure : Room := { frames := 0, cells := 0, slots := 0, locals := 0 }
set_option maxRecDepth 100000 in
set_option maxHeartbeats 4000000 in
theorem c_X7_isFigure (V : VT) (v : Int32) : CI V yX7_isFigure cX7_isFigure 1 .boolean rm_X7_isFigure [.int v] (([] : va_W)) (fun r_ w_ => r_ = bI (tFg v) ∧ w_ = ([] : va_W)) := by
  refine CI_intro (by decide) (Nat.le_of_ble_eq_true rfl) (fun K cx hret => ?_)
  show G V K 1 0 0 (([] : va_W)) 0 [(0, .int v)] []
  refine g_iload_n (v := v) cx dX7_isFigure_0 rfl ?_
  refine g_bipush (v := 48) cx dX7_isFigure_1 (by decide) ?_
  refine g_icmp_lt cx 16 dX7_isFigure_3 (by decide) (fun hw1 => ?_) (fun hw1 => ?_)
  · skip
    refine g_iconst (v := 0) cx dX7_isFigure_16 (by decide) ?_
    exact hret _ _ _ _ dX7_isFigure_17 (by first | rfl | exact rf_bnar) (⟨by simp only [bI, tFg, hw1, not_true_eq_false, not_false_eq_true, and_true, true_and, and_false, false_and, or_true, true_or, or_false, false_or, if_true, if_false], rfl⟩)
  · skip
    refine g_iload_n (v := v) cx dX7_isFigure_6 rfl ?_
    refine g_bipush (v := 57) cx dX7_isFigure_7 (by decide) ?_
    refine g_icmp_gt cx 16 dX7_isFigure_9 (by decide) (fun hw2 => ?_) (fun hw2 => ?_)
    · skip
      refine g_iconst (v := 0) cx dX7_isFigure_16 (by decide) ?_
      exact hret _ _ _ _ dX7_isFigure_17 (by first | rfl | exact rf_bnar) (⟨by simp only [bI, tFg, hw1, hw2, not_true_eq_false, not_false_eq_true, and_true, true_and, and_false, false_and, or_true, true_or, or_false, false_or, if_true, if_false], rfl⟩)
    · skip
      refine g_iconst (v := 1) cx dX7_isFigure_12 (by decide) ?_
      refine g_goto cx 17 dX7_isFigure_13 (by decide) ?_
      exact hret _ _ _ _ dX7_isFigure_17 (by first | rfl | exact rf_bnar) (⟨by simp only [bI, tFg, hw1, hw2, not_true_eq_false, not_false_eq_true, and_true, true_and, and_false, false_and, or_true, true_or, or_false, false_or, if_true, if_false], rfl⟩)
def rm_X7_stepOverFigures : Room := { frames := 1, cells := 0, slots := 0, locals := 21 }
set_option maxRecDepth 100000 in
set_option maxHeartbeats 4000000 in
theorem c_X7_stepOverFigures (V : VT) (td : Nat → Nat) (L : Nat → Int32) (z p : Nat) (d u : Int32) (hz : z ≤ 120) (hp : p < z) : CV V yX7_stepOverFigures cX7_stepOverFigures 2 rm_X7_stepOverFigures [.ref (td 0)] (wTx V td L (nI z) (nI p) (nI p) d u) (fun w_ => w_ = wTx V td L (nI z) (nI (p + tC L z p)) (nI p) (tKd L z p) (tN L p (tC L z p))) := by
  refine CV_intro (by decide) (Nat.le_of_ble_eq_true rfl) (fun K cx hci hret => ?_)
  show G V K 2 0 0 (wTx V td L (nI z) (nI p) (nI p) d u) 0 [(0, .ref (td 0))] []
  refine g_aload_n (v := td 0) cx dX7_stepOverFigures_0 rfl ?_
  refine g_iconst (v := 0) cx dX7_stepOverFigures_1 (by decide) ?_
  refine g_put (ws' := wTx V td L (nI z) (nI p) (nI p) d 0) cx fk_X7_38 dX7_stepOverFigures_2 0 rfl (rfl) (rfl) (Nat.le_of_ble_eq_true rfl) rfl ?_
  refine rf_dn (P := fun i1 => G V K 2 0 0 (wTx V td L (nI z) (nI (p + i1)) (nI p) d (tN L p i1)) 5 [(0, .ref (td 0))] []) (tC L z p) (fun i1 hi1 ihi1 => ?_) ?_
  · skip
    have hle := tC_le L z p
    have hno : tFg (L (p + i1)) := Decidable.of_not_not (of_decide_eq_false (ff_no (fun j => decide (¬ tFg (L (p + j)))) (z - p) i1 hi1))
    refine g_aload_n (v := td 0) cx dX7_stepOverFigures_5 rfl ?_
    refine g_get (v := .int (nI (p + i1))) cx fk_X7_19 dX7_stepOverFigures_6 0 rfl rfl ?_
    refine g_aload_n (v := td 0) cx dX7_stepOverFigures_9 rfl ?_
    refine g_get (v := .int (nI z)) cx fk_X7_15 dX7_stepOverFigures_10 0 rfl rfl ?_
    refine g_icmp_ge cx 74 dX7_stepOverFigures_13 (by decide) (fun hw1 => absurd hw1 (rf_geMN rfl rfl (by omega) (by omega) (by omega))) (fun hw1 => ?_)
    refine g_aload_n (v := td 0) cx dX7_stepOverFigures_16 rfl ?_
    refine g_get (v := .ref (td 1)) cx fk_X7_9 dX7_stepOverFigures_17 0 rfl rfl ?_
    refine g_aload_n (v := td 0) cx dX7_stepOverFigures_20 rfl ?_
    refine g_get (v := .int (nI (p + i1))) cx fk_X7_19 dX7_stepOverFigures_21 0 rfl rfl ?_
    refine g_iald cx dX7_stepOverFigures_24 1 (p + i1) rfl (rfl) (by omega) (by first | decide | omega) ?_
    refine g_top (y := L (p + i1)) (rfl) ?_
    refine k_callsi (r0 := bI (tFg (L (p + i1)))) (ws' := wTx V td L (nI z) (nI (p + i1)) (nI p) d (tN L p i1)) (As := [.int (L (p + i1))]) (rest := []) cx (c_X7_isFigure V (L (p + i1))) ml_X7_31 dX7_stepOverFigures_25 [] rfl rfl [] rfl rfl rfl rfl rfl (Nat.le_of_ble_eq_true rfl) ⟨Nat.le_of_ble_eq_true rfl, Nat.le_of_ble_eq_true rfl⟩ ⟨Nat.le_refl _, Nat.le_refl _⟩ ?_
    refine g_if_eq_b cx 74 dX7_stepOverFigures_28 (by decide) (fun hw2 => absurd (hno) hw2) (fun hw2 => ?_)
    refine g_aload_n (v := td 0) cx dX7_stepOverFigures_31 rfl ?_
    refine g_bipush (v := 10) cx dX7_stepOverFigures_32 (by decide) ?_
    refine g_aload_n (v := td 0) cx dX7_stepOverFigures_34 rfl ?_
    refine g_get (v := .int (tN L p i1)) cx fk_X7_38 dX7_stepOverFigures_35 0 rfl rfl ?_
    refine g_imul cx dX7_stepOverFigures_38 ?_
    refine g_aload_n (v := td 0) cx dX7_stepOverFigures_39 rfl ?_
    refine g_get (v := .ref (td 1)) cx fk_X7_9 dX7_stepOverFigures_40 0 rfl rfl ?_
    refine g_aload_n (v := td 0) cx dX7_stepOverFigures_43 rfl ?_
    refine g_get (v := .int (nI (p + i1))) cx fk_X7_19 dX7_stepOverFigures_44 0 rfl rfl ?_
    refine g_iald cx dX7_stepOverFigures_47 1 (p + i1) rfl (rfl) (by omega) (by first | decide | omega) ?_
    refine g_top (y := L (p + i1)) (rfl) ?_
    refine g_iadd cx dX7_stepOverFigures_48 ?_
    refine g_bipush (v := 48) cx dX7_stepOverFigures_49 (by decide) ?_
    refine g_isub cx dX7_stepOverFigures_51 ?_
    refine g_sipush (v := 256) cx dX7_stepOverFigures_52 (by decide) ?_
    refine g_mmin cx ml_X7_41 dX7_stepOverFigures_55 (Nat.le_of_ble_eq_true rfl) (Nat.le_of_ble_eq_true rfl) (Nat.zero_le _) (Nat.zero_le _) ?_
    refine g_top (y := tN L p (i1 + 1)) (rfl) ?_
    refine g_put (ws' := wTx V td L (nI z) (nI (p + i1)) (nI p) d (tN L p (i1 + 1))) cx fk_X7_38 dX7_stepOverFigures_58 0 rfl (rfl) (rfl) (Nat.le_of_ble_eq_true rfl) rfl ?_
    refine g_aload_n (v := td 0) cx dX7_stepOverFigures_61 rfl ?_
    refine g_dup cx dX7_stepOverFigures_62 rfl ?_
    refine g_get (v := .int (nI (p + i1))) cx fk_X7_19 dX7_stepOverFigures_63 0 rfl rfl ?_
    refine g_iconst (v := 1) cx dX7_stepOverFigures_66 (by decide) ?_
    refine g_iadd cx dX7_stepOverFigures_67 ?_
    refine g_top (y := nI ((p + i1) + 1)) (rf_add rfl (nl 1)) ?_
    refine g_put (ws' := wTx V td L (nI z) (nI ((p + i1) + 1)) (nI p) d (tN L p (i1 + 1))) cx fk_X7_19 dX7_stepOverFigures_68 0 rfl (rfl) (rfl) (Nat.le_of_ble_eq_true rfl) rfl ?_
    refine g_goto cx 5 dX7_stepOverFigures_71 (by decide) ?_
    exact ihi1
  · skip
    have hle := tC_le L z p
    rcases Nat.lt_or_ge (tC L z p) (z - p) with he | he
    · have hy : ¬ tFg (L (p + tC L z p)) := of_decide_eq_true (ff_yes (fun j => decide (¬ tFg (L (p + j)))) (z - p) he)
      refine g_aload_n (v := td 0) cx dX7_stepOverFigures_5 rfl ?_
      refine g_get (v := .int (nI (p + tC L z p))) cx fk_X7_19 dX7_stepOverFigures_6 0 rfl rfl ?_
      refine g_aload_n (v := td 0) cx dX7_stepOverFigures_9 rfl ?_
      refine g_get (v := .int (nI z)) cx fk_X7_15 dX7_stepOverFigures_10 0 rfl rfl ?_
      refine g_icmp_ge cx 74 dX7_stepOverFigures_13 (by decide) (fun hw3 => absurd hw3 (rf_geMN rfl rfl (by omega) (by omega) (by omega))) (fun hw3 => ?_)
      refine g_aload_n (v := td 0) cx dX7_stepOverFigures_16 rfl ?_
      refine g_get (v := .ref (td 1)) cx fk_X7_9 dX7_stepOverFigures_17 0 rfl rfl ?_
      refine g_aload_n (v := td 0) cx dX7_stepOverFigures_20 rfl ?_
      refine g_get (v := .int (nI (p + tC L z p))) cx fk_X7_19 dX7_stepOverFigures_21 0 rfl rfl ?_
      refine g_iald cx dX7_stepOverFigures_24 1 (p + tC L z p) rfl (rfl) (by omega) (by first | decide | omega) ?_
      refine g_top (y := L (p + tC L z p)) (rfl) ?_
      refine k_callsi (r0 := bI (tFg (L (p + tC L z p)))) (ws' := wTx V td L (nI z) (nI (p + tC L z p)) (nI p) d (tN L p (tC L z p))) (As := [.int (L (p + tC L z p))]) (rest := []) cx (c_X7_isFigure V (L (p + tC L z p))) ml_X7_31 dX7_stepOverFigures_25 [] rfl rfl [] rfl rfl rfl rfl rfl (Nat.le_of_ble_eq_true rfl) ⟨Nat.le_of_ble_eq_true rfl, Nat.le_of_ble_eq_true rfl⟩ ⟨Nat.le_refl _, Nat.le_refl _⟩ ?_
      refine g_if_eq_b cx 74 dX7_stepOverFigures_28 (by decide) (fun hw4 => ?_) (fun hw4 => absurd hw4 (hy))
      refine g_aload_n (v := td 0) cx dX7_stepOverFigures_74 rfl ?_
      refine g_get (v := .ref (td 1)) cx fk_X7_9 dX7_stepOverFigures_75 0 rfl rfl ?_
      refine g_aload_n (v := td 0) cx dX7_stepOverFigures_78 rfl ?_
      refine g_get (v := .int (nI p)) cx fk_X7_25 dX7_stepOverFigures_79 0 rfl rfl ?_
      refine g_iald cx dX7_stepOverFigures_82 1 p rfl (rfl) (by omega) (by first | decide | omega) ?_
      refine g_top (y := L p) (rfl) ?_
      refine g_bipush (v := 48) cx dX7_stepOverFigures_83 (by decide) ?_
      refine g_icmp_ne cx 105 dX7_stepOverFigures_85 (by decide) (fun hw5 => ?_) (fun hw5 => ?_)
      · skip
        refine g_iconst (v := 0) cx dX7_stepOverFigures_105 (by decide) ?_
        refine g_istore_n (lv' := [(0, .ref (td 0)), (1, .int 0)]) cx dX7_stepOverFigures_106 (by decide) rfl ?_
        refine g_aload_n (v := td 0) cx dX7_stepOverFigures_107 rfl ?_
        refine g_iload_n (v := 0) cx dX7_stepOverFigures_108 rfl ?_
        refine g_if_ne cx 122 dX7_stepOverFigures_109 (by decide) (fun hw6 => absurd (by decide) hw6) (fun hw6 => ?_)
        refine g_aload_n (v := td 0) cx dX7_stepOverFigures_112 rfl ?_
        refine g_get (v := .int (tN L p (tC L z p))) cx fk_X7_38 dX7_stepOverFigures_113 0 rfl rfl ?_
        refine g_sipush (v := 255) cx dX7_stepOverFigures_116 (by decide) ?_
        refine g_icmp_le cx 128 dX7_stepOverFigures_119 (by decide) (fun hw7 => ?_) (fun hw7 => ?_)
        · skip
          refine g_sipush (v := 256) cx dX7_stepOverFigures_128 (by decide) ?_
          refine g_put (ws' := wTx V td L (nI z) (nI (p + tC L z p)) (nI p) 256 (tN L p (tC L z p))) cx fk_X7_28 dX7_stepOverFigures_131 0 rfl (rfl) (rfl) (Nat.le_of_ble_eq_true rfl) rfl ?_
          exact hret _ _ _ dX7_stepOverFigures_134 (by simp only [tKd, hw5, hw7, not_true_eq_false, not_false_eq_true, and_true, true_and, and_false, false_and, or_true, true_or, or_false, false_or, if_true, if_false])
        · skip
          refine g_sipush (v := 258) cx dX7_stepOverFigures_122 (by decide) ?_
          refine g_goto cx 131 dX7_stepOverFigures_125 (by decide) ?_
          refine g_put (ws' := wTx V td L (nI z) (nI (p + tC L z p)) (nI p) 258 (tN L p (tC L z p))) cx fk_X7_28 dX7_stepOverFigures_131 0 rfl (rfl) (rfl) (Nat.le_of_ble_eq_true rfl) rfl ?_
          exact hret _ _ _ dX7_stepOverFigures_134 (by simp only [tKd, hw5, hw7, not_true_eq_false, not_false_eq_true, and_true, true_and, and_false, false_and, or_true, true_or, or_false, false_or, if_true, if_false])
      · skip
        refine g_aload_n (v := td 0) cx dX7_stepOverFigures_88 rfl ?_
        refine g_get (v := .int (nI (p + tC L z p))) cx fk_X7_19 dX7_stepOverFigures_89 0 rfl rfl ?_
        refine g_aload_n (v := td 0) cx dX7_stepOverFigures_92 rfl ?_
        refine g_get (v := .int (nI p)) cx fk_X7_25 dX7_stepOverFigures_93 0 rfl rfl ?_
        refine g_isub cx dX7_stepOverFigures_96 ?_
        refine g_top (y := nI ((p + tC L z p) - p)) (rf_sub rfl rfl (by omega)) ?_
        refine g_top (y := nI (tC L z p)) (by rw [Nat.add_sub_cancel_left]) ?_
        refine g_iconst (v := 1) cx dX7_stepOverFigures_97 (by decide) ?_
        refine g_icmp_le cx 105 dX7_stepOverFigures_98 (by decide) (fun hw8 => ?_) (fun hw8 => ?_)
        · have hw8 := rf_leP rfl (nl 1) (by omega) (by omega) hw8
          refine g_iconst (v := 0) cx dX7_stepOverFigures_105 (by decide) ?_
          refine g_istore_n (lv' := [(0, .ref (td 0)), (1, .int 0)]) cx dX7_stepOverFigures_106 (by decide) rfl ?_
          refine g_aload_n (v := td 0) cx dX7_stepOverFigures_107 rfl ?_
          refine g_iload_n (v := 0) cx dX7_stepOverFigures_108 rfl ?_
          refine g_if_ne cx 122 dX7_stepOverFigures_109 (by decide) (fun hw9 => absurd (by decide) hw9) (fun hw9 => ?_)
          refine g_aload_n (v := td 0) cx dX7_stepOverFigures_112 rfl ?_
          refine g_get (v := .int (tN L p (tC L z p))) cx fk_X7_38 dX7_stepOverFigures_113 0 rfl rfl ?_
          refine g_sipush (v := 255) cx dX7_stepOverFigures_116 (by decide) ?_
          refine g_icmp_le cx 128 dX7_stepOverFigures_119 (by decide) (fun hw10 => ?_) (fun hw10 => ?_)
          · skip
            refine g_sipush (v := 256) cx dX7_stepOverFigures_128 (by decide) ?_
            refine g_put (ws' := wTx V td L (nI z) (nI (p + tC L z p)) (nI p) 256 (tN L p (tC L z p))) cx fk_X7_28 dX7_stepOverFigures_131 0 rfl (rfl) (rfl) (Nat.le_of_ble_eq_true rfl) rfl ?_
            exact hret _ _ _ dX7_stepOverFigures_134 (by simp only [tKd, hw5, hw8, hw10, not_true_eq_false, not_false_eq_true, and_true, true_and, and_false, false_and, or_true, true_or, or_false, false_or, if_true, if_false])
          · skip
            refine g_sipush (v := 258) cx dX7_stepOverFigures_122 (by decide) ?_
            refine g_goto cx 131 dX7_stepOverFigures_125 (by decide) ?_
            refine g_put (ws' := wTx V td L (nI z) (nI (p + tC L z p)) (nI p) 258 (tN L p (tC L z p))) cx fk_X7_28 dX7_stepOverFigures_131 0 rfl (rfl) (rfl) (Nat.le_of_ble_eq_true rfl) rfl ?_
            exact hret _ _ _ dX7_stepOverFigures_134 (by simp only [tKd, hw5, hw8, hw10, not_true_eq_false, not_false_eq_true, and_true, true_and, and_false, false_and, or_true, true_or, or_false, false_or, if_true, if_false])
        · have hw8 := rf_leN rfl (nl 1) (by omega) (by omega) hw8
          refine g_iconst (v := 1) cx dX7_stepOverFigures_101 (by decide) ?_
          refine g_goto cx 106 dX7_stepOverFigures_102 (by decide) ?_
          refine g_istore_n (lv' := [(0, .ref (td 0)), (1, .int 1)]) cx dX7_stepOverFigures_106 (by decide) rfl ?_
          refine g_aload_n (v := td 0) cx dX7_stepOverFigures_107 rfl ?_
          refine g_iload_n (v := 1) cx dX7_stepOverFigures_108 rfl ?_
          refine g_if_ne cx 122 dX7_stepOverFigures_109 (by decide) (fun hw11 => ?_) (fun hw11 => absurd hw11 (by decide))
          refine g_sipush (v := 258) cx dX7_stepOverFigures_122 (by decide) ?_
          refine g_goto cx 131 dX7_stepOverFigures_125 (by decide) ?_
          refine g_put (ws' := wTx V td L (nI z) (nI (p + tC L z p)) (nI p) 258 (tN L p (tC L z p))) cx fk_X7_28 dX7_stepOverFigures_131 0 rfl (rfl) (rfl) (Nat.le_of_ble_eq_true rfl) rfl ?_
          exact hret _ _ _ dX7_stepOverFigures_134 (by simp only [tKd, hw5, hw8, not_true_eq_false, not_false_eq_true, and_true, true_and, and_false, false_and, or_true, true_or, or_false, false_or, if_true, if_false])
    · have he2 : tC L z p = z - p := Nat.le_antisymm (tC_le L z p) he
      refine g_aload_n (v := td 0) cx dX7_stepOverFigures_5 rfl ?_
      refine g_get (v := .int (nI (p + tC L z p))) cx fk_X7_19 dX7_stepOverFigures_6 0 rfl rfl ?_
      refine g_aload_n (v := td 0) cx dX7_stepOverFigures_9 rfl ?_
      refine g_get (v := .int (nI z)) cx fk_X7_15 dX7_stepOverFigures_10 0 rfl rfl ?_
      refine g_icmp_ge cx 74 dX7_stepOverFigures_13 (by decide) (fun hw12 => ?_) (fun hw12 => absurd (rf_geMP rfl rfl (by omega) (by omega) (by omega)) hw12)
      refine g_aload_n (v := td 0) cx dX7_stepOverFigures_74 rfl ?_
      refine g_get (v := .ref (td 1)) cx fk_X7_9 dX7_stepOverFigures_75 0 rfl rfl ?_
      refine g_aload_n (v := td 0) cx dX7_stepOverFigures_78 rfl ?_
      refine g_get (v := .int (nI p)) cx fk_X7_25 dX7_stepOverFigures_79 0 rfl rfl ?_
      refine g_iald cx dX7_stepOverFigures_82 1 p rfl (rfl) (by omega) (by first | decide | omega) ?_
      refine g_top (y := L p) (rfl) ?_
      refine g_bipush (v := 48) cx dX7_stepOverFigures_83 (by decide) ?_
      refine g_icmp_ne cx 105 dX7_stepOverFigures_85 (by decide) (fun hw13 => ?_) (fun hw13 => ?_)
      · skip
        refine g_iconst (v := 0) cx dX7_stepOverFigures_105 (by decide) ?_
        refine g_istore_n (lv' := [(0, .ref (td 0)), (1, .int 0)]) cx dX7_stepOverFigures_106 (by decide) rfl ?_
        refine g_aload_n (v := td 0) cx dX7_stepOverFigures_107 rfl ?_
        refine g_iload_n (v := 0) cx dX7_stepOverFigures_108 rfl ?_
        refine g_if_ne cx 122 dX7_stepOverFigures_109 (by decide) (fun hw14 => absurd (by decide) hw14) (fun hw14 => ?_)
        refine g_aload_n (v := td 0) cx dX7_stepOverFigures_112 rfl ?_
        refine g_get (v := .int (tN L p (tC L z p))) cx fk_X7_38 dX7_stepOverFigures_113 0 rfl rfl ?_
        refine g_sipush (v := 255) cx dX7_stepOverFigures_116 (by decide) ?_
        refine g_icmp_le cx 128 dX7_stepOverFigures_119 (by decide) (fun hw15 => ?_) (fun hw15 => ?_)
        · skip
          refine g_sipush (v := 256) cx dX7_stepOverFigures_128 (by decide) ?_
          refine g_put (ws' := wTx V td L (nI z) (nI (p + tC L z p)) (nI p) 256 (tN L p (tC L z p))) cx fk_X7_28 dX7_stepOverFigures_131 0 rfl (rfl) (rfl) (Nat.le_of_ble_eq_true rfl) rfl ?_
          exact hret _ _ _ dX7_stepOverFigures_134 (by simp only [tKd, hw13, hw15, not_true_eq_false, not_false_eq_true, and_true, true_and, and_false, false_and, or_true, true_or, or_false, false_or, if_true, if_false])
        · skip
          refine g_sipush (v := 258) cx dX7_stepOverFigures_122 (by decide) ?_
          refine g_goto cx 131 dX7_stepOverFigures_125 (by decide) ?_
          refine g_put (ws' := wTx V td L (nI z) (nI (p + tC L z p)) (nI p) 258 (tN L p (tC L z p))) cx fk_X7_28 dX7_stepOverFigures_131 0 rfl (rfl) (rfl) (Nat.le_of_ble_eq_true rfl) rfl ?_
          exact hret _ _ _ dX7_stepOverFigures_134 (by simp only [tKd, hw13, hw15, not_true_eq_false, not_false_eq_true, and_true, true_and, and_false, false_and, or_true, true_or, or_false, false_or, if_true, if_false])
      · skip
        refine g_aload_n (v := td 0) cx dX7_stepOverFigures_88 rfl ?_
        refine g_get (v := .int (nI (p + tC L z p))) cx fk_X7_19 dX7_stepOverFigures_89 0 rfl rfl ?_
        refine g_aload_n (v := td 0) cx dX7_stepOverFigures_92 rfl ?_
        refine g_get (v := .int (nI p)) cx fk_X7_25 dX7_stepOverFigures_93 0 rfl rfl ?_
        refine g_isub cx dX7_stepOverFigures_96 ?_
        refine g_top (y := nI ((p + tC L z p) - p)) (rf_sub rfl rfl (by omega)) ?_
        refine g_top (y := nI (tC L z p)) (by rw [Nat.add_sub_cancel_left]) ?_
        refine g_iconst (v := 1) cx dX7_stepOverFigures_97 (by decide) ?_
        refine g_icmp_le cx 105 dX7_stepOverFigures_98 (by decide) (fun hw16 => ?_) (fun hw16 => ?_)
        · have hw16 := rf_leP rfl (nl 1) (by omega) (by omega) hw16
          refine g_iconst (v := 0) cx dX7_stepOverFigures_105 (by decide) ?_
          refine g_istore_n (lv' := [(0, .ref (td 0)), (1, .int 0)]) cx dX7_stepOverFigures_106 (by decide) rfl ?_
          refine g_aload_n (v := td 0) cx dX7_stepOverFigures_107 rfl ?_
          refine g_iload_n (v := 0) cx dX7_stepOverFigures_108 rfl ?_
          refine g_if_ne cx 122 dX7_stepOverFigures_109 (by decide) (fun hw17 => absurd (by decide) hw17) (fun hw17 => ?_)
          refine g_aload_n (v := td 0) cx dX7_stepOverFigures_112 rfl ?_
          refine g_get (v := .int (tN L p (tC L z p))) cx fk_X7_38 dX7_stepOverFigures_113 0 rfl rfl ?_
          refine g_sipush (v := 255) cx dX7_stepOverFigures_116 (by decide) ?_
          refine g_icmp_le cx 128 dX7_stepOverFigures_119 (by decide) (fun hw18 => ?_) (fun hw18 => ?_)
          · skip
            refine g_sipush (v := 256) cx dX7_stepOverFigures_128 (by decide) ?_
            refine g_put (ws' := wTx V td L (nI z) (nI (p + tC L z p)) (nI p) 256 (tN L p (tC L z p))) cx fk_X7_28 dX7_stepOverFigures_131 0 rfl (rfl) (rfl) (Nat.le_of_ble_eq_true rfl) rfl ?_
            exact hret _ _ _ dX7_stepOverFigures_134 (by simp only [tKd, hw13, hw16, hw18, not_true_eq_false, not_false_eq_true, and_true, true_and, and_false, false_and, or_true, true_or, or_false, false_or, if_true, if_false])
          · skip
            refine g_sipush (v := 258) cx dX7_stepOverFigures_122 (by decide) ?_
            refine g_goto cx 131 dX7_stepOverFigures_125 (by decide) ?_
            refine g_put (ws' := wTx V td L (nI z) (nI (p + tC L z p)) (nI p) 258 (tN L p (tC L z p))) cx fk_X7_28 dX7_stepOverFigures_131 0 rfl (rfl) (rfl) (Nat.le_of_ble_eq_true rfl) rfl ?_
            exact hret _ _ _ dX7_stepOverFigures_134 (by simp only [tKd, hw13, hw16, hw18, not_true_eq_false, not_false_eq_true, and_true, true_and, and_false, false_and, or_true, true_or, or_false, false_or, if_true, if_false])
        · have hw16 := rf_leN rfl (nl 1) (by omega) (by omega) hw16
          refine g_iconst (v := 1) cx dX7_stepOverFigures_101 (by decide) ?_
          refine g_goto cx 106 dX7_stepOverFigures_102 (by decide) ?_
          refine g_istore_n (lv' := [(0, .ref (td 0)), (1, .int 1)]) cx dX7_stepOverFigures_106 (by decide) rfl ?_
          refine g_aload_n (v := td 0) cx dX7_stepOverFigures_107 rfl ?_
          refine g_iload_n (v := 1) cx dX7_stepOverFigures_108 rfl ?_
          refine g_if_ne cx 122 dX7_stepOverFigures_109 (by decide) (fun hw19 => ?_) (fun hw19 => absurd hw19 (by decide))
          refine g_sipush (v := 258) cx dX7_stepOverFigures_122 (by decide) ?_
          refine g_goto cx 131 dX7_stepOverFigures_125 (by decide) ?_
          refine g_put (ws' := wTx V td L (nI z) (nI (p + tC L z p)) (nI p) 258 (tN L p (tC L z p))) cx fk_X7_28 dX7_stepOverFigures_131 0 rfl (rfl) (rfl) (Nat.le_of_ble_eq_true rfl) rfl ?_
          exact hret _ _ _ dX7_stepOverFigures_134 (by simp only [tKd, hw13, hw16, not_true_eq_false, not_false_eq_true, and_true, true_and, and_false, false_and, or_true, true_or, or_false, false_or, if_true, if_false])
def rm_X7_step : Room := { frames := 2, cells := 0, slots := 0, locals := 42 }
set_option maxRecDepth 100000 in
set_option maxHeartbeats 4000000 in
theorem c_X7_step (V : VT) (td : Nat → Nat) (L : Nat → Int32) (z x : Nat) (c d u : Int32) (hz : z ≤ 120) (hx : x ≤ z) : CV V yX7_step cX7_step 1 rm_X7_step [.ref (td 0)] (wTx V td L (nI z) (nI x) c d u) (fun w_ => w_ = wTx V td L (nI z) (nI (tX L z x)) (nI (tP L z x)) (tK L z x) (tV L z x u)) := by
  refine CV_intro (by decide) (Nat.le_of_ble_eq_true rfl) (fun K cx hci hret => ?_)
  show G V K 1 0 0 (wTx V td L (nI z) (nI x) c d u) 0 [(0, .ref (td 0))] []
  refine rf_dn (P := fun i1 => G V K 1 0 0 (wTx V td L (nI z) (nI (x + i1)) c d u) 0 [(0, .ref (td 0))] []) (tQ L z x) (fun i1 hi1 ihi1 => ?_) ?_
  · skip
    have hle := tQ_le L z x
    have hno : L (x + i1) = 32 := Decidable.of_not_not (of_decide_eq_false (ff_no (fun j => decide (¬ L (x + j) = 32)) (z - x) i1 hi1))
    refine g_aload_n (v := td 0) cx dX7_step_0 rfl ?_
    refine g_get (v := .int (nI (x + i1))) cx fk_X7_19 dX7_step_1 0 rfl rfl ?_
    refine g_aload_n (v := td 0) cx dX7_step_4 rfl ?_
    refine g_get (v := .int (nI z)) cx fk_X7_15 dX7_step_5 0 rfl rfl ?_
    refine g_icmp_ge cx 38 dX7_step_8 (by decide) (fun hw1 => absurd hw1 (rf_geMN rfl rfl (by omega) (by omega) (by omega))) (fun hw1 => ?_)
    refine g_aload_n (v := td 0) cx dX7_step_11 rfl ?_
    refine g_get (v := .ref (td 1)) cx fk_X7_9 dX7_step_12 0 rfl rfl ?_
    refine g_aload_n (v := td 0) cx dX7_step_15 rfl ?_
    refine g_get (v := .int (nI (x + i1))) cx fk_X7_19 dX7_step_16 0 rfl rfl ?_
    refine g_iald cx dX7_step_19 1 (x + i1) rfl (rfl) (by omega) (by first | decide | omega) ?_
    refine g_top (y := L (x + i1)) (rfl) ?_
    refine g_bipush (v := 32) cx dX7_step_20 (by decide) ?_
    refine g_icmp_ne cx 38 dX7_step_22 (by decide) (fun hw2 => absurd (hno) hw2) (fun hw2 => ?_)
    refine g_aload_n (v := td 0) cx dX7_step_25 rfl ?_
    refine g_dup cx dX7_step_26 rfl ?_
    refine g_get (v := .int (nI (x + i1))) cx fk_X7_19 dX7_step_27 0 rfl rfl ?_
    refine g_iconst (v := 1) cx dX7_step_30 (by decide) ?_
    refine g_iadd cx dX7_step_31 ?_
    refine g_top (y := nI ((x + i1) + 1)) (rf_add rfl (nl 1)) ?_
    refine g_put (ws' := wTx V td L (nI z) (nI ((x + i1) + 1)) c d u) cx fk_X7_19 dX7_step_32 0 rfl (rfl) (rfl) (Nat.le_of_ble_eq_true rfl) rfl ?_
    refine g_goto cx 0 dX7_step_35 (by decide) ?_
    exact ihi1
  · skip
    have hpz : tP L z x ≤ z := tP_le hx
    rcases Nat.lt_or_ge (tQ L z x) (z - x) with he | he
    · have hy : ¬ L (tP L z x) = 32 := of_decide_eq_true (ff_yes (fun j => decide (¬ L (x + j) = 32)) (z - x) he)
      have hlt : tP L z x < z := by unfold tP; omega
      refine g_aload_n (v := td 0) cx dX7_step_0 rfl ?_
      refine g_get (v := .int (nI (tP L z x))) cx fk_X7_19 dX7_step_1 0 rfl rfl ?_
      refine g_aload_n (v := td 0) cx dX7_step_4 rfl ?_
      refine g_get (v := .int (nI z)) cx fk_X7_15 dX7_step_5 0 rfl rfl ?_
      refine g_icmp_ge cx 38 dX7_step_8 (by decide) (fun hw3 => absurd hw3 (rf_geMN rfl rfl (by omega) (by omega) (by omega))) (fun hw3 => ?_)
      refine g_aload_n (v := td 0) cx dX7_step_11 rfl ?_
      refine g_get (v := .ref (td 1)) cx fk_X7_9 dX7_step_12 0 rfl rfl ?_
      refine g_aload_n (v := td 0) cx dX7_step_15 rfl ?_
      refine g_get (v := .int (nI (tP L z x))) cx fk_X7_19 dX7_step_16 0 rfl rfl ?_
      refine g_iald cx dX7_step_19 1 (tP L z x) rfl (rfl) (by omega) (by first | decide | omega) ?_
      refine g_top (y := L (tP L z x)) (rfl) ?_
      refine g_bipush (v := 32) cx dX7_step_20 (by decide) ?_
      refine g_icmp_ne cx 38 dX7_step_22 (by decide) (fun hw4 => ?_) (fun hw4 => absurd hw4 (hy))
      refine g_aload_n (v := td 0) cx dX7_step_38 rfl ?_
      refine g_aload_n (v := td 0) cx dX7_step_39 rfl ?_
      refine g_get (v := .int (nI (tP L z x))) cx fk_X7_19 dX7_step_40 0 rfl rfl ?_
      refine g_put (ws' := wTx V td L (nI z) (nI (tP L z x)) (nI (tP L z x)) d u) cx fk_X7_25 dX7_step_43 0 rfl (rfl) (rfl) (Nat.le_of_ble_eq_true rfl) rfl ?_
      refine g_aload_n (v := td 0) cx dX7_step_46 rfl ?_
      refine g_get (v := .int (nI (tP L z x))) cx fk_X7_19 dX7_step_47 0 rfl rfl ?_
      refine g_aload_n (v := td 0) cx dX7_step_50 rfl ?_
      refine g_get (v := .int (nI z)) cx fk_X7_15 dX7_step_51 0 rfl rfl ?_
      refine g_icmp_lt cx 67 dX7_step_54 (by decide) (fun hw5 => ?_) (fun hw5 => absurd (rf_ltMP rfl rfl (by omega) (by omega) (by omega)) hw5)
      refine g_aload_n (v := td 0) cx dX7_step_67 rfl ?_
      refine g_get (v := .ref (td 1)) cx fk_X7_9 dX7_step_68 0 rfl rfl ?_
      refine g_aload_n (v := td 0) cx dX7_step_71 rfl ?_
      refine g_get (v := .int (nI (tP L z x))) cx fk_X7_19 dX7_step_72 0 rfl rfl ?_
      refine g_iald cx dX7_step_75 1 (tP L z x) rfl (rfl) (by omega) (by first | decide | omega) ?_
      refine g_top (y := L (tP L z x)) (rfl) ?_
      refine k_callsi (r0 := bI (tFg (L (tP L z x)))) (ws' := wTx V td L (nI z) (nI (tP L z x)) (nI (tP L z x)) d u) (As := [.int (L (tP L z x))]) (rest := []) cx (c_X7_isFigure V (L (tP L z x))) ml_X7_31 dX7_step_76 [] rfl rfl [] rfl rfl rfl rfl rfl (Nat.le_of_ble_eq_true rfl) ⟨Nat.le_of_ble_eq_true rfl, Nat.le_of_ble_eq_true rfl⟩ ⟨Nat.le_refl _, Nat.le_refl _⟩ ?_
      refine g_if_eq_b cx 89 dX7_step_79 (by decide) (fun hw6 => ?_) (fun hw6 => ?_)
      · skip
        refine g_aload_n (v := td 0) cx dX7_step_89 rfl ?_
        refine g_aload_n (v := td 0) cx dX7_step_90 rfl ?_
        refine g_get (v := .ref (td 1)) cx fk_X7_9 dX7_step_91 0 rfl rfl ?_
        refine g_aload_n (v := td 0) cx dX7_step_94 rfl ?_
        refine g_get (v := .int (nI (tP L z x))) cx fk_X7_19 dX7_step_95 0 rfl rfl ?_
        refine g_iald cx dX7_step_98 1 (tP L z x) rfl (rfl) (by omega) (by first | decide | omega) ?_
        refine g_top (y := L (tP L z x)) (rfl) ?_
        refine g_put (ws' := wTx V td L (nI z) (nI (tP L z x)) (nI (tP L z x)) (L (tP L z x)) u) cx fk_X7_28 dX7_step_99 0 rfl (rfl) (rfl) (Nat.le_of_ble_eq_true rfl) rfl ?_
        refine g_aload_n (v := td 0) cx dX7_step_102 rfl ?_
        refine g_dup cx dX7_step_103 rfl ?_
        refine g_get (v := .int (nI (tP L z x))) cx fk_X7_19 dX7_step_104 0 rfl rfl ?_
        refine g_iconst (v := 1) cx dX7_step_107 (by decide) ?_
        refine g_iadd cx dX7_step_108 ?_
        refine g_top (y := nI ((tP L z x) + 1)) (rf_add rfl (nl 1)) ?_
        refine g_put (ws' := wTx V td L (nI z) (nI ((tP L z x) + 1)) (nI (tP L z x)) (L (tP L z x)) u) cx fk_X7_19 dX7_step_109 0 rfl (rfl) (rfl) (Nat.le_of_ble_eq_true rfl) rfl ?_
        exact hret _ _ _ dX7_step_112 (by simp only [tX, tK, tV, tFg, hlt, hw6, not_true_eq_false, not_false_eq_true, and_true, true_and, and_false, false_and, or_true, true_or, or_false, false_or, if_true, if_false])
      · skip
        refine g_aload_n (v := td 0) cx dX7_step_82 rfl ?_
        refine k_callv (ws' := wTx V td L (nI z) (nI (tP L z x + tC L z (tP L z x))) (nI (tP L z x)) (tKd L z (tP L z x)) (tN L (tP L z x) (tC L z (tP L z x)))) (As := []) (rest := []) cx (c_X7_stepOverFigures V td L z (tP L z x) d u hz hlt) ml_X7_35 dX7_step_83 [0, 1] rfl rfl [td 0, td 1] rfl rfl rfl 0 7 rfl rfl rfl rfl rfl (Nat.le_of_ble_eq_true rfl) ⟨Nat.le_of_ble_eq_true rfl, Nat.le_of_ble_eq_true rfl⟩ ⟨Nat.le_refl _, Nat.le_refl _⟩ ?_
        refine g_goto cx 112 dX7_step_86 (by decide) ?_
        exact hret _ _ _ dX7_step_112 (by simp only [tX, tK, tV, tFg, hlt, hw6, not_true_eq_false, not_false_eq_true, and_true, true_and, and_false, false_and, or_true, true_or, or_false, false_or, if_true, if_false])
    · have he2 : tP L z x = z := by have := tQ_le L z x; unfold tP; omega
      have hlt : ¬ tP L z x < z := by omega
      refine g_aload_n (v := td 0) cx dX7_step_0 rfl ?_
      refine g_get (v := .int (nI (tP L z x))) cx fk_X7_19 dX7_step_1 0 rfl rfl ?_
      refine g_aload_n (v := td 0) cx dX7_step_4 rfl ?_
      refine g_get (v := .int (nI z)) cx fk_X7_15 dX7_step_5 0 rfl rfl ?_
      refine g_icmp_ge cx 38 dX7_step_8 (by decide) (fun hw7 => ?_) (fun hw7 => absurd (rf_geMP rfl rfl (by omega) (by omega) (by omega)) hw7)
      refine g_aload_n (v := td 0) cx dX7_step_38 rfl ?_
      refine g_aload_n (v := td 0) cx dX7_step_39 rfl ?_
      refine g_get (v := .int (nI (tP L z x))) cx fk_X7_19 dX7_step_40 0 rfl rfl ?_
      refine g_put (ws' := wTx V td L (nI z) (nI (tP L z x)) (nI (tP L z x)) d u) cx fk_X7_25 dX7_step_43 0 rfl (rfl) (rfl) (Nat.le_of_ble_eq_true rfl) rfl ?_
      refine g_aload_n (v := td 0) cx dX7_step_46 rfl ?_
      refine g_get (v := .int (nI (tP L z x))) cx fk_X7_19 dX7_step_47 0 rfl rfl ?_
      refine g_aload_n (v := td 0) cx dX7_step_50 rfl ?_
      refine g_get (v := .int (nI z)) cx fk_X7_15 dX7_step_51 0 rfl rfl ?_
      refine g_icmp_lt cx 67 dX7_step_54 (by decide) (fun hw8 => absurd hw8 (rf_ltMN rfl rfl (by omega) (by omega) (by omega))) (fun hw8 => ?_)
      refine g_aload_n (v := td 0) cx dX7_step_57 rfl ?_
      refine g_sipush (v := 257) cx dX7_step_58 (by decide) ?_
      refine g_put (ws' := wTx V td L (nI z) (nI (tP L z x)) (nI (tP L z x)) 257 u) cx fk_X7_28 dX7_step_61 0 rfl (rfl) (rfl) (Nat.le_of_ble_eq_true rfl) rfl ?_
      refine g_goto cx 112 dX7_step_64 (by decide) ?_
      exact hret _ _ _ dX7_step_112 (by simp only [tX, tK, tV, tFg, hlt, not_true_eq_false, not_false_eq_true, and_true, true_and, and_false, false_and, or_true, true_or, or_false, false_or, if_true, if_false])
def rm_X7_begin : Room := { frames := 3, cells := 0, slots := 0, locals := 62 }
set_option maxRecDepth 100000 in
set_option maxHeartbeats 4000000 in
theorem c_X7_begin (V : VT) (td : Nat → Nat) (L : Nat → Int32) (z : Nat) (b c d u : Int32) (hz : z ≤ 120) : CV V yX7_begin cX7_begin 1 rm_X7_begin [.ref (td 0)] (wTx V td L (nI z) b c d u) (fun w_ => w_ = wTx V td L (nI z) (nI (tX L z 0)) (nI (tP L z 0)) (tK L z 0) (tV L z 0 u)) := by
  refine CV_intro (by decide) (Nat.le_of_ble_eq_true rfl) (fun K cx hci hret => ?_)
  show G V K 1 0 0 (wTx V td L (nI z) b c d u) 0 [(0, .ref (td 0))] []
  refine g_aload_n (v := td 0) cx dX7_begin_0 rfl ?_
  refine g_iconst (v := 0) cx dX7_begin_1 (by decide) ?_
  refine g_top (y := nI 0) (rfl) ?_
  refine g_put (ws' := wTx V td L (nI z) (nI 0) c d u) cx fk_X7_19 dX7_begin_2 0 rfl (rfl) (rfl) (Nat.le_of_ble_eq_true rfl) rfl ?_
  refine g_aload_n (v := td 0) cx dX7_begin_5 rfl ?_
  refine k_callv (ws' := wTx V td L (nI z) (nI (tX L z 0)) (nI (tP L z 0)) (tK L z 0) (tV L z 0 u)) (As := []) (rest := []) cx (c_X7_step V td L z 0 c d u hz (Nat.zero_le _)) ml_X7_22 dX7_begin_6 [0, 1] rfl rfl [td 0, td 1] rfl rfl rfl 0 7 rfl rfl rfl rfl rfl (Nat.le_of_ble_eq_true rfl) ⟨Nat.le_of_ble_eq_true rfl, Nat.le_of_ble_eq_true rfl⟩ ⟨Nat.le_refl _, Nat.le_refl _⟩ ?_
  exact hret _ _ _ dX7_begin_9 (rfl)
