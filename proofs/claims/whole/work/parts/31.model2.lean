def mS (L : Nat → Int32) (z : Nat) (p : Nat × Int32) : Nat × Int32 := (tX L z p.1, mV L z p.1 p.2)
abbrev mU (L : Nat → Int32) (z : Nat) (p : Nat × Int32) : Int32 := mV L z p.1 p.2
abbrev mO (L : Nat → Int32) (z : Nat) (p : Nat × Int32) (a b : Int32) : Prop := mK L z p.1 = 1 ∧ (¬ mV L z p.1 p.2 < a ∧ ¬ b < mV L z p.1 p.2)
theorem mS_le {L : Nat → Int32} {z : Nat} {p : Nat × Int32} (h : p.1 ≤ z) : (mS L z p).1 ≤ z := tX_le h
def qn (Q : Nat → Int32) : Nat := (Q 0).toNatClampNeg
def qo (Q : Nat → Int32) : Nat := (Q 3).toNatClampNeg
def mqD1 (L : Nat → Int32) (z : Nat) (Q : Nat → Int32) (p : Nat × Int32) : Nat → Int32 := upd Q (9 + qn Q) (mU L z p)
def mqD2 (L : Nat → Int32) (z : Nat) (Q : Nat → Int32) (p p2 : Nat × Int32) : Nat → Int32 := upd (upd (mqD1 L z Q p) (17 + 9 * qn Q) (mU L z p2)) 0 ((upd (mqD1 L z Q p) (17 + 9 * qn Q) (mU L z p2)) 0 + 1)
def mqDrive (L : Nat → Int32) (z : Nat) (Q : Nat → Int32) (p : Nat × Int32) : Bool × (Nat → Int32) × (Nat × Int32) :=
  if Q 0 = 6 then (false, Q, p) else if Q 1 = 1 then (false, Q, p)
  else if ¬ mO L z (mS L z p) 1 9 then (false, Q, mS L z p)
  else if ¬ mO L z (mS L z (mS L z p)) 0 15 then (false, mqD1 L z Q (mS L z p), mS L z (mS L z p))
  else (decide (mK L z (mS L z (mS L z (mS L z p))).1 = 59), mqD2 L z Q (mS L z p) (mS L z (mS L z p)), mS L z (mS L z (mS L z p)))
def mqLast (L : Nat → Int32) (z : Nat) (Q : Nat → Int32) (p : Nat × Int32) : Bool × (Nat → Int32) × (Nat × Int32) :=
  if Q 0 = 0 then (false, Q, p) else if Q 1 = 1 then (false, Q, p)
  else if ¬ mO L z (mS L z p) 1 9 then (false, Q, mS L z p)
  else (decide (mK L z (mS L z (mS L z p)).1 = 59), upd (upd Q (9 + qn Q) (mU L z (mS L z p))) 1 1, mS L z (mS L z p))
def mqLimit (L : Nat → Int32) (z : Nat) (Q : Nat → Int32) (il : Int32) (p : Nat × Int32) : Bool × (Nat → Int32) × Int32 × (Nat × Int32) :=
  if ¬ il = 0 then (false, Q, il, p)
  else if ¬ mO L z (mS L z p) 1 9 then (false, Q, il, mS L z p)
  else (decide (mK L z (mS L z (mS L z p)).1 = 59), upd Q 2 (mU L z (mS L z p)), 1, mS L z (mS L z p))
def rm_X9_scanNumber : Room := { frames := 2, cells := 0, slots := 0, locals := 43 }
set_option maxRecDepth 100000 in
set_option maxHeartbeats 4000000 in
theorem c_X9_scanNumber (V : VT) (ad : Nat → Nat) (nw rw ps im kp tx sw sv da co pl me fa ao al : Nat → Int32) (de se il : Int32) (a : Int32) (b : Int32) (z : Nat) (p : Nat × Int32) (hz : z ≤ 120) (hp : p.1 ≤ z) : CI V yX9_scanNumber cX9_scanNumber 3 .boolean rm_X9_scanNumber [.ref (ad 0), .int a, .int b] (wMo V ad nw rw ps im kp tx sw sv da co pl me fa ao al de (nI z) (nI (tX tx z p.1)) (nI (tP tx z p.1)) (mK tx z p.1) (mV tx z p.1 p.2) se il) (fun r_ w_ => r_ = bI (mO tx z (mS tx z p) a b) ∧ w_ = wMo V ad nw rw ps im kp tx sw sv da co pl me fa ao al de (nI z) (nI (tX tx z (mS tx z p).1)) (nI (tP tx z (mS tx z p).1)) (mK tx z (mS tx z p).1) (mV tx z (mS tx z p).1 (mS tx z p).2) se il) := by
  refine CI_intro (by decide) (Nat.le_of_ble_eq_true rfl) (fun K cx hret => ?_)
  show G V K 3 0 0 (wMo V ad nw rw ps im kp tx sw sv da co pl me fa ao al de (nI z) (nI (tX tx z p.1)) (nI (tP tx z p.1)) (mK tx z p.1) (mV tx z p.1 p.2) se il) 0 [(0, .ref (ad 0)), (1, .int a), (2, .int b)] []
  refine g_aload_n (v := ad 0) cx dX9_scanNumber_0 rfl ?_
  refine w_callv (ws' := wMo V ad nw rw ps im kp tx sw sv da co pl me fa ao al de (nI z) (nI (tX tx z (mS tx z p).1)) (nI (tP tx z (mS tx z p).1)) (mK tx z (mS tx z p).1) (mV tx z (mS tx z p).1 (mS tx z p).2) se il) (As := []) (rest := []) cx (c_X9_scan V ad nw rw ps im kp tx sw sv da co pl me fa ao al de (nI (tP tx z p.1)) (mK tx z p.1) (mV tx z p.1 p.2) se il z (tX tx z p.1) hz (mS_le (hp))) ml_X9_87 dX9_scanNumber_1 (q0 := 0) rfl rfl rfl rfl rfl (Nat.le_of_ble_eq_true rfl) ⟨Nat.le_of_ble_eq_true rfl, Nat.le_of_ble_eq_true rfl⟩ ⟨Nat.le_refl _, Nat.le_refl _⟩ ?_
  refine g_aload_n (v := ad 0) cx dX9_scanNumber_4 rfl ?_
  refine g_get (v := .int (mK tx z (mS tx z p).1)) cx fk_X9_73 dX9_scanNumber_5 0 rfl rfl ?_
  refine g_iconst (v := 1) cx dX9_scanNumber_8 (by decide) ?_
  refine g_icmp_ne cx 28 dX9_scanNumber_9 (by decide) (fun hw1 => ?_) (fun hw1 => ?_)
  · skip
    refine g_iconst (v := 0) cx dX9_scanNumber_28 (by decide) ?_
    exact hret _ _ _ _ dX9_scanNumber_29 (by first | rfl | exact rf_bnar) (⟨bI_f (fun h => hw1 h.1), rfl⟩)
  · skip
    refine g_aload_n (v := ad 0) cx dX9_scanNumber_12 rfl ?_
    refine g_get (v := .int (mV tx z (mS tx z p).1 (mS tx z p).2)) cx fk_X9_80 dX9_scanNumber_13 0 rfl rfl ?_
    refine g_iload_n (v := a) cx dX9_scanNumber_16 rfl ?_
    refine g_iload_n (v := b) cx dX9_scanNumber_17 rfl ?_
    refine k_callsi (r0 := bI (¬ (mV tx z (mS tx z p).1 (mS tx z p).2) < a ∧ ¬ b < (mV tx z (mS tx z p).1 (mS tx z p).2))) (ws' := wMo V ad nw rw ps im kp tx sw sv da co pl me fa ao al de (nI z) (nI (tX tx z (mS tx z p).1)) (nI (tP tx z (mS tx z p).1)) (mK tx z (mS tx z p).1) (mV tx z (mS tx z p).1 (mS tx z p).2) se il) (As := [.int (mV tx z (mS tx z p).1 (mS tx z p).2), .int a, .int b]) (rest := []) cx (c_X9_in V (mV tx z (mS tx z p).1 (mS tx z p).2) a b) ml_X9_76 dX9_scanNumber_18 [] rfl rfl [] rfl rfl rfl rfl rfl (Nat.le_of_ble_eq_true rfl) ⟨Nat.le_of_ble_eq_true rfl, Nat.le_of_ble_eq_true rfl⟩ ⟨Nat.le_refl _, Nat.le_refl _⟩ ?_
    refine g_if_eq_b cx 28 dX9_scanNumber_21 (by decide) (fun hw2 => ?_) (fun hw2 => ?_)
    · skip
      refine g_iconst (v := 0) cx dX9_scanNumber_28 (by decide) ?_
      exact hret _ _ _ _ dX9_scanNumber_29 (by first | rfl | exact rf_bnar) (⟨bI_f (fun h => hw2 h.2), rfl⟩)
    · skip
      refine g_iconst (v := 1) cx dX9_scanNumber_24 (by decide) ?_
      refine g_goto cx 29 dX9_scanNumber_25 (by decide) ?_
      exact hret _ _ _ _ dX9_scanNumber_29 (by first | rfl | exact rf_bnar) (⟨bI_t ⟨hw1, hw2⟩, rfl⟩)
def rm_X9_scanEnd : Room := { frames := 2, cells := 0, slots := 0, locals := 43 }
set_option maxRecDepth 100000 in
set_option maxHeartbeats 4000000 in
theorem c_X9_scanEnd (V : VT) (ad : Nat → Nat) (nw rw ps im kp tx sw sv da co pl me fa ao al : Nat → Int32) (de se il : Int32) (z : Nat) (p : Nat × Int32) (hz : z ≤ 120) (hp : p.1 ≤ z) : CI V yX9_scanEnd cX9_scanEnd 1 .boolean rm_X9_scanEnd [.ref (ad 0)] (wMo V ad nw rw ps im kp tx sw sv da co pl me fa ao al de (nI z) (nI (tX tx z p.1)) (nI (tP tx z p.1)) (mK tx z p.1) (mV tx z p.1 p.2) se il) (fun r_ w_ => r_ = bI (mK tx z (mS tx z p).1 = 59) ∧ w_ = wMo V ad nw rw ps im kp tx sw sv da co pl me fa ao al de (nI z) (nI (tX tx z (mS tx z p).1)) (nI (tP tx z (mS tx z p).1)) (mK tx z (mS tx z p).1) (mV tx z (mS tx z p).1 (mS tx z p).2) se il) := by
  refine CI_intro (by decide) (Nat.le_of_ble_eq_true rfl) (fun K cx hret => ?_)
  show G V K 1 0 0 (wMo V ad nw rw ps im kp tx sw sv da co pl me fa ao al de (nI z) (nI (tX tx z p.1)) (nI (tP tx z p.1)) (mK tx z p.1) (mV tx z p.1 p.2) se il) 0 [(0, .ref (ad 0))] []
  refine g_aload_n (v := ad 0) cx dX9_scanEnd_0 rfl ?_
  refine w_callv (ws' := wMo V ad nw rw ps im kp tx sw sv da co pl me fa ao al de (nI z) (nI (tX tx z (mS tx z p).1)) (nI (tP tx z (mS tx z p).1)) (mK tx z (mS tx z p).1) (mV tx z (mS tx z p).1 (mS tx z p).2) se il) (As := []) (rest := []) cx (c_X9_scan V ad nw rw ps im kp tx sw sv da co pl me fa ao al de (nI (tP tx z p.1)) (mK tx z p.1) (mV tx z p.1 p.2) se il z (tX tx z p.1) hz (mS_le (hp))) ml_X9_87 dX9_scanEnd_1 (q0 := 0) rfl rfl rfl rfl rfl (Nat.le_of_ble_eq_true rfl) ⟨Nat.le_of_ble_eq_true rfl, Nat.le_of_ble_eq_true rfl⟩ ⟨Nat.le_refl _, Nat.le_refl _⟩ ?_
  refine g_aload_n (v := ad 0) cx dX9_scanEnd_4 rfl ?_
  refine g_get (v := .int (mK tx z (mS tx z p).1)) cx fk_X9_73 dX9_scanEnd_5 0 rfl rfl ?_
  refine g_bipush (v := 59) cx dX9_scanEnd_8 (by decide) ?_
  refine g_icmp_ne cx 17 dX9_scanEnd_10 (by decide) (fun hw1 => ?_) (fun hw1 => ?_)
  · skip
    refine g_iconst (v := 0) cx dX9_scanEnd_17 (by decide) ?_
    exact hret _ _ _ _ dX9_scanEnd_18 (by first | rfl | exact rf_bnar) (⟨bI_f hw1, rfl⟩)
  · skip
    refine g_iconst (v := 1) cx dX9_scanEnd_13 (by decide) ?_
    refine g_goto cx 18 dX9_scanEnd_14 (by decide) ?_
    exact hret _ _ _ _ dX9_scanEnd_18 (by first | rfl | exact rf_bnar) (⟨bI_t hw1, rfl⟩)
def rm_X9_readDrive : Room := { frames := 3, cells := 0, slots := 0, locals := 65 }
set_option maxRecDepth 100000 in
set_option maxHeartbeats 4000000 in
theorem c_X9_readDrive (V : VT) (ad : Nat → Nat) (nw rw ps im kp tx sw sv da co pl me fa ao al : Nat → Int32) (de se il : Int32) (z : Nat) (p : Nat × Int32) (hz : z ≤ 120) (hp : p.1 ≤ z) (hn : rw 0 = nI (qn rw)) (hn6 : qn rw ≤ 6) : CI V yX9_readDrive cX9_readDrive 2 .boolean rm_X9_readDrive [.ref (ad 0)] (wMo V ad nw rw ps im kp tx sw sv da co pl me fa ao al de (nI z) (nI (tX tx z p.1)) (nI (tP tx z p.1)) (mK tx z p.1) (mV tx z p.1 p.2) se il) (fun r_ w_ => r_ = bI ((mqDrive tx z rw p).1 = true) ∧ w_ = wMo V ad nw ((mqDrive tx z rw p).2.1) ps im kp tx sw sv da co pl me fa ao al de (nI z) (nI (tX tx z ((mqDrive tx z rw p).2.2).1)) (nI (tP tx z ((mqDrive tx z rw p).2.2).1)) (mK tx z ((mqDrive tx z rw p).2.2).1) (mV tx z ((mqDrive tx z rw p).2.2).1 ((mqDrive tx z rw p).2.2).2) se il) := by
  refine CI_intro (by decide) (Nat.le_of_ble_eq_true rfl) (fun K cx hret => ?_)
  show G V K 2 0 0 (wMo V ad nw rw ps im kp tx sw sv da co pl me fa ao al de (nI z) (nI (tX tx z p.1)) (nI (tP tx z p.1)) (mK tx z p.1) (mV tx z p.1 p.2) se il) 0 [(0, .ref (ad 0))] []
  refine g_aload_n (v := ad 0) cx dX9_readDrive_0 rfl ?_
  refine g_get (v := .ref (ad 2)) cx fk_X9_13 dX9_readDrive_1 0 rfl rfl ?_
  refine g_iconst (v := 0) cx dX9_readDrive_4 (by decide) ?_
  refine g_iald cx dX9_readDrive_5 2 0 rfl (nl 0) (by omega) (by first | decide | omega) ?_
  refine g_top (y := rw 0) (rfl) ?_
  refine g_istore_n (lv' := [(0, .ref (ad 0)), (1, .int (rw 0))]) cx dX9_readDrive_6 (by decide) rfl ?_
  refine g_iload_n (v := rw 0) cx dX9_readDrive_7 rfl ?_
  refine g_bipush (v := 6) cx dX9_readDrive_8 (by decide) ?_
  refine g_icmp_eq cx 33 dX9_readDrive_10 (by decide) (fun hw1 => ?_) (fun hw1 => ?_)
  · skip
    refine g_iconst (v := 0) cx dX9_readDrive_33 (by decide) ?_
    exact hret _ _ _ _ dX9_readDrive_34 (by first | rfl | exact rf_bnar) (⟨by rw [mqDrive, if_pos hw1]; rfl, by rw [mqDrive, if_pos hw1] <;> rfl⟩)
  · skip
    refine g_aload_n (v := ad 0) cx dX9_readDrive_13 rfl ?_
    refine g_get (v := .ref (ad 2)) cx fk_X9_13 dX9_readDrive_14 0 rfl rfl ?_
    refine g_iconst (v := 1) cx dX9_readDrive_17 (by decide) ?_
    refine g_iald cx dX9_readDrive_18 2 1 rfl (nl 1) (by omega) (by first | decide | omega) ?_
    refine g_top (y := rw 1) (rfl) ?_
    refine g_iconst (v := 1) cx dX9_readDrive_19 (by decide) ?_
    refine g_icmp_eq cx 33 dX9_readDrive_20 (by decide) (fun hw2 => ?_) (fun hw2 => ?_)
    · skip
      refine g_iconst (v := 0) cx dX9_readDrive_33 (by decide) ?_
      exact hret _ _ _ _ dX9_readDrive_34 (by first | rfl | exact rf_bnar) (⟨by rw [mqDrive, if_neg hw1, if_pos hw2]; rfl, by rw [mqDrive, if_neg hw1, if_pos hw2] <;> rfl⟩)
    · skip
      refine g_aload_n (v := ad 0) cx dX9_readDrive_23 rfl ?_
      refine g_iconst (v := 1) cx dX9_readDrive_24 (by decide) ?_
      refine g_bipush (v := 9) cx dX9_readDrive_25 (by decide) ?_
      refine w_calli (r0 := bI (mO tx z (mS tx z p) 1 9)) (ws' := wMo V ad nw rw ps im kp tx sw sv da co pl me fa ao al de (nI z) (nI (tX tx z (mS tx z p).1)) (nI (tP tx z (mS tx z p).1)) (mK tx z (mS tx z p).1) (mV tx z (mS tx z p).1 (mS tx z p).2) se il) (As := [.int 1, .int 9]) (rest := []) cx (c_X9_scanNumber V ad nw rw ps im kp tx sw sv da co pl me fa ao al de se il 1 9 z p hz hp) ml_X9_90 dX9_readDrive_27 (q0 := 0) rfl rfl rfl rfl rfl (Nat.le_of_ble_eq_true rfl) ⟨Nat.le_of_ble_eq_true rfl, Nat.le_of_ble_eq_true rfl⟩ ⟨Nat.le_refl _, Nat.le_refl _⟩ ?_
      refine g_if_ne_b cx 35 dX9_readDrive_30 (by decide) (fun hw3 => ?_) (fun hw3 => ?_)
      · skip
        refine g_aload_n (v := ad 0) cx dX9_readDrive_35 rfl ?_
        refine g_get (v := .ref (ad 2)) cx fk_X9_13 dX9_readDrive_36 0 rfl rfl ?_
        refine g_bipush (v := 9) cx dX9_readDrive_39 (by decide) ?_
        refine g_iload_n (v := rw 0) cx dX9_readDrive_41 rfl ?_
        refine g_iadd cx dX9_readDrive_42 ?_
        refine g_aload_n (v := ad 0) cx dX9_readDrive_43 rfl ?_
        refine g_get (v := .int (mV tx z (mS tx z p).1 (mS tx z p).2)) cx fk_X9_80 dX9_readDrive_44 0 rfl rfl ?_
        refine g_iast (ws' := wMo V ad nw (upd rw (9 + (qn rw)) (mV tx z (mS tx z p).1 (mS tx z p).2)) ps im kp tx sw sv da co pl me fa ao al de (nI z) (nI (tX tx z (mS tx z p).1)) (nI (tP tx z (mS tx z p).1)) (mK tx z (mS tx z p).1) (mV tx z (mS tx z p).1 (mS tx z p).2) se il) cx dX9_readDrive_47 2 (9 + (qn rw)) rfl (rf_add (nl 9) hn) (by omega) (by first | decide | omega) rfl ?_
        refine g_aload_n (v := ad 0) cx dX9_readDrive_48 rfl ?_
        refine g_iconst (v := 0) cx dX9_readDrive_49 (by decide) ?_
        refine g_bipush (v := 15) cx dX9_readDrive_50 (by decide) ?_
        refine w_calli (r0 := bI (mO tx z (mS tx z (mS tx z p)) 0 15)) (ws' := wMo V ad nw (upd rw (9 + (qn rw)) (mV tx z (mS tx z p).1 (mS tx z p).2)) ps im kp tx sw sv da co pl me fa ao al de (nI z) (nI (tX tx z (mS tx z (mS tx z p)).1)) (nI (tP tx z (mS tx z (mS tx z p)).1)) (mK tx z (mS tx z (mS tx z p)).1) (mV tx z (mS tx z (mS tx z p)).1 (mS tx z (mS tx z p)).2) se il) (As := [.int 0, .int 15]) (rest := []) cx (c_X9_scanNumber V ad nw (upd rw (9 + (qn rw)) (mV tx z (mS tx z p).1 (mS tx z p).2)) ps im kp tx sw sv da co pl me fa ao al de se il 0 15 z (mS tx z p) hz (mS_le (hp))) ml_X9_90 dX9_readDrive_52 (q0 := 0) rfl rfl rfl rfl rfl (Nat.le_of_ble_eq_true rfl) ⟨Nat.le_of_ble_eq_true rfl, Nat.le_of_ble_eq_true rfl⟩ ⟨Nat.le_refl _, Nat.le_refl _⟩ ?_
        refine g_if_ne_b cx 60 dX9_readDrive_55 (by decide) (fun hw4 => ?_) (fun hw4 => ?_)
        · skip
          refine g_aload_n (v := ad 0) cx dX9_readDrive_60 rfl ?_
          refine g_get (v := .ref (ad 2)) cx fk_X9_13 dX9_readDrive_61 0 rfl rfl ?_
          refine g_bipush (v := 17) cx dX9_readDrive_64 (by decide) ?_
          refine g_bipush (v := 9) cx dX9_readDrive_66 (by decide) ?_
          refine g_iload_n (v := rw 0) cx dX9_readDrive_68 rfl ?_
          refine g_imul cx dX9_readDrive_69 ?_
          refine g_iadd cx dX9_readDrive_70 ?_
          refine g_aload_n (v := ad 0) cx dX9_readDrive_71 rfl ?_
          refine g_get (v := .int (mV tx z (mS tx z (mS tx z p)).1 (mS tx z (mS tx z p)).2)) cx fk_X9_80 dX9_readDrive_72 0 rfl rfl ?_
          refine g_iast (ws' := wMo V ad nw (upd (upd rw (9 + (qn rw)) (mV tx z (mS tx z p).1 (mS tx z p).2)) (17 + (9 * (qn rw))) (mV tx z (mS tx z (mS tx z p)).1 (mS tx z (mS tx z p)).2)) ps im kp tx sw sv da co pl me fa ao al de (nI z) (nI (tX tx z (mS tx z (mS tx z p)).1)) (nI (tP tx z (mS tx z (mS tx z p)).1)) (mK tx z (mS tx z (mS tx z p)).1) (mV tx z (mS tx z (mS tx z p)).1 (mS tx z (mS tx z p)).2) se il) cx dX9_readDrive_75 2 (17 + (9 * (qn rw))) rfl (rf_add (nl 17) (rf_mul (nl 9) hn)) (by omega) (by first | decide | omega) rfl ?_
          refine g_aload_n (v := ad 0) cx dX9_readDrive_76 rfl ?_
          refine g_get (v := .ref (ad 2)) cx fk_X9_13 dX9_readDrive_77 0 rfl rfl ?_
          refine g_iconst (v := 0) cx dX9_readDrive_80 (by decide) ?_
          refine g_dup2 cx dX9_readDrive_81 rfl rfl ?_
          refine g_iald cx dX9_readDrive_82 2 0 rfl (nl 0) (by omega) (by first | decide | omega) ?_
          refine g_top (y := (upd (upd rw (9 + (qn rw)) (mV tx z (mS tx z p).1 (mS tx z p).2)) (17 + (9 * (qn rw))) (mV tx z (mS tx z (mS tx z p)).1 (mS tx z (mS tx z p)).2)) 0) (rfl) ?_
          refine g_iconst (v := 1) cx dX9_readDrive_83 (by decide) ?_
          refine g_iadd cx dX9_readDrive_84 ?_
          refine g_iast (ws' := wMo V ad nw (upd (upd (upd rw (9 + (qn rw)) (mV tx z (mS tx z p).1 (mS tx z p).2)) (17 + (9 * (qn rw))) (mV tx z (mS tx z (mS tx z p)).1 (mS tx z (mS tx z p)).2)) 0 (((upd (upd rw (9 + (qn rw)) (mV tx z (mS tx z p).1 (mS tx z p).2)) (17 + (9 * (qn rw))) (mV tx z (mS tx z (mS tx z p)).1 (mS tx z (mS tx z p)).2)) 0) + 1)) ps im kp tx sw sv da co pl me fa ao al de (nI z) (nI (tX tx z (mS tx z (mS tx z p)).1)) (nI (tP tx z (mS tx z (mS tx z p)).1)) (mK tx z (mS tx z (mS tx z p)).1) (mV tx z (mS tx z (mS tx z p)).1 (mS tx z (mS tx z p)).2) se il) cx dX9_readDrive_85 2 0 rfl (nl 0) (by omega) (by first | decide | omega) rfl ?_
          refine g_aload_n (v := ad 0) cx dX9_readDrive_86 rfl ?_
          refine w_calli (r0 := bI (mK tx z (mS tx z (mS tx z (mS tx z p))).1 = 59)) (ws' := wMo V ad nw (upd (upd (upd rw (9 + (qn rw)) (mV tx z (mS tx z p).1 (mS tx z p).2)) (17 + (9 * (qn rw))) (mV tx z (mS tx z (mS tx z p)).1 (mS tx z (mS tx z p)).2)) 0 (((upd (upd rw (9 + (qn rw)) (mV tx z (mS tx z p).1 (mS tx z p).2)) (17 + (9 * (qn rw))) (mV tx z (mS tx z (mS tx z p)).1 (mS tx z (mS tx z p)).2)) 0) + 1)) ps im kp tx sw sv da co pl me fa ao al de (nI z) (nI (tX tx z (mS tx z (mS tx z (mS tx z p))).1)) (nI (tP tx z (mS tx z (mS tx z (mS tx z p))).1)) (mK tx z (mS tx z (mS tx z (mS tx z p))).1) (mV tx z (mS tx z (mS tx z (mS tx z p))).1 (mS tx z (mS tx z (mS tx z p))).2) se il) (As := []) (rest := []) cx (c_X9_scanEnd V ad nw (upd (upd (upd rw (9 + (qn rw)) (mV tx z (mS tx z p).1 (mS tx z p).2)) (17 + (9 * (qn rw))) (mV tx z (mS tx z (mS tx z p)).1 (mS tx z (mS tx z p)).2)) 0 (((upd (upd rw (9 + (qn rw)) (mV tx z (mS tx z p).1 (mS tx z p).2)) (17 + (9 * (qn rw))) (mV tx z (mS tx z (mS tx z p)).1 (mS tx z (mS tx z p)).2)) 0) + 1)) ps im kp tx sw sv da co pl me fa ao al de se il z (mS tx z (mS tx z p)) hz (mS_le (mS_le (hp)))) ml_X9_94 dX9_readDrive_87 (q0 := 0) rfl rfl rfl rfl rfl (Nat.le_of_ble_eq_true rfl) ⟨Nat.le_of_ble_eq_true rfl, Nat.le_of_ble_eq_true rfl⟩ ⟨Nat.le_refl _, Nat.le_refl _⟩ ?_
          exact hret _ _ _ _ dX9_readDrive_90 (by first | rfl | exact rf_bnar) (⟨by rw [mqDrive, if_neg hw1, if_neg hw2, if_neg (not_not_intro hw3), if_neg (not_not_intro hw4)]; simp only [decide_eq_true_eq], by rw [mqDrive, if_neg hw1, if_neg hw2, if_neg (not_not_intro hw3), if_neg (not_not_intro hw4)] <;> rfl⟩)
        · skip
          refine g_iconst (v := 0) cx dX9_readDrive_58 (by decide) ?_
          exact hret _ _ _ _ dX9_readDrive_59 (by first | rfl | exact rf_bnar) (⟨by rw [mqDrive, if_neg hw1, if_neg hw2, if_neg (not_not_intro hw3), if_pos hw4]; rfl, by rw [mqDrive, if_neg hw1, if_neg hw2, if_neg (not_not_intro hw3), if_pos hw4] <;> rfl⟩)
      · skip
        refine g_iconst (v := 0) cx dX9_readDrive_33 (by decide) ?_
        exact hret _ _ _ _ dX9_readDrive_34 (by first | rfl | exact rf_bnar) (⟨by rw [mqDrive, if_neg hw1, if_neg hw2, if_pos hw3]; rfl, by rw [mqDrive, if_neg hw1, if_neg hw2, if_pos hw3] <;> rfl⟩)
def rm_X9_readLast : Room := { frames := 3, cells := 0, slots := 0, locals := 65 }
set_option maxRecDepth 100000 in
set_option maxHeartbeats 4000000 in
theorem c_X9_readLast (V : VT) (ad : Nat → Nat) (nw rw ps im kp tx sw sv da co pl me fa ao al : Nat → Int32) (de se il : Int32) (z : Nat) (p : Nat × Int32) (hz : z ≤ 120) (hp : p.1 ≤ z) (hn : rw 0 = nI (qn rw)) (hn6 : qn rw ≤ 6) : CI V yX9_readLast cX9_readLast 1 .boolean rm_X9_readLast [.ref (ad 0)] (wMo V ad nw rw ps im kp tx sw sv da co pl me fa ao al de (nI z) (nI (tX tx z p.1)) (nI (tP tx z p.1)) (mK tx z p.1) (mV tx z p.1 p.2) se il) (fun r_ w_ => r_ = bI ((mqLast tx z rw p).1 = true) ∧ w_ = wMo V ad nw ((mqLast tx z rw p).2.1) ps im kp tx sw sv da co pl me fa ao al de (nI z) (nI (tX tx z ((mqLast tx z rw p).2.2).1)) (nI (tP tx z ((mqLast tx z rw p).2.2).1)) (mK tx z ((mqLast tx z rw p).2.2).1) (mV tx z ((mqLast tx z rw p).2.2).1 ((mqLast tx z rw p).2.2).2) se il) := by
  refine CI_intro (by decide) (Nat.le_of_ble_eq_true rfl) (fun K cx hret => ?_)
  show G V K 1 0 0 (wMo V ad nw rw ps im kp tx sw sv da co pl me fa ao al de (nI z) (nI (tX tx z p.1)) (nI (tP tx z p.1)) (mK tx z p.1) (mV tx z p.1 p.2) se il) 0 [(0, .ref (ad 0))] []
  refine g_aload_n (v := ad 0) cx dX9_readLast_0 rfl ?_
  refine g_get (v := .ref (ad 2)) cx fk_X9_13 dX9_readLast_1 0 rfl rfl ?_
  refine g_iconst (v := 0) cx dX9_readLast_4 (by decide) ?_
  refine g_iald cx dX9_readLast_5 2 0 rfl (nl 0) (by omega) (by first | decide | omega) ?_
  refine g_top (y := rw 0) (rfl) ?_
  refine g_if_eq cx 29 dX9_readLast_6 (by decide) (fun hw1 => ?_) (fun hw1 => ?_)
  · skip
    refine g_iconst (v := 0) cx dX9_readLast_29 (by decide) ?_
    exact hret _ _ _ _ dX9_readLast_30 (by first | rfl | exact rf_bnar) (⟨by rw [mqLast, if_pos hw1]; rfl, by rw [mqLast, if_pos hw1] <;> rfl⟩)
  · skip
    refine g_aload_n (v := ad 0) cx dX9_readLast_9 rfl ?_
    refine g_get (v := .ref (ad 2)) cx fk_X9_13 dX9_readLast_10 0 rfl rfl ?_
    refine g_iconst (v := 1) cx dX9_readLast_13 (by decide) ?_
    refine g_iald cx dX9_readLast_14 2 1 rfl (nl 1) (by omega) (by first | decide | omega) ?_
    refine g_top (y := rw 1) (rfl) ?_
    refine g_iconst (v := 1) cx dX9_readLast_15 (by decide) ?_
    refine g_icmp_eq cx 29 dX9_readLast_16 (by decide) (fun hw2 => ?_) (fun hw2 => ?_)
    · skip
      refine g_iconst (v := 0) cx dX9_readLast_29 (by decide) ?_
      exact hret _ _ _ _ dX9_readLast_30 (by first | rfl | exact rf_bnar) (⟨by rw [mqLast, if_neg hw1, if_pos hw2]; rfl, by rw [mqLast, if_neg hw1, if_pos hw2] <;> rfl⟩)
    · skip
      refine g_aload_n (v := ad 0) cx dX9_readLast_19 rfl ?_
      refine g_iconst (v := 1) cx dX9_readLast_20 (by decide) ?_
      refine g_bipush (v := 9) cx dX9_readLast_21 (by decide) ?_
      refine w_calli (r0 := bI (mO tx z (mS tx z p) 1 9)) (ws' := wMo V ad nw rw ps im kp tx sw sv da co pl me fa ao al de (nI z) (nI (tX tx z (mS tx z p).1)) (nI (tP tx z (mS tx z p).1)) (mK tx z (mS tx z p).1) (mV tx z (mS tx z p).1 (mS tx z p).2) se il) (As := [.int 1, .int 9]) (rest := []) cx (c_X9_scanNumber V ad nw rw ps im kp tx sw sv da co pl me fa ao al de se il 1 9 z p hz hp) ml_X9_90 dX9_readLast_23 (q0 := 0) rfl rfl rfl rfl rfl (Nat.le_of_ble_eq_true rfl) ⟨Nat.le_of_ble_eq_true rfl, Nat.le_of_ble_eq_true rfl⟩ ⟨Nat.le_refl _, Nat.le_refl _⟩ ?_
      refine g_if_ne_b cx 31 dX9_readLast_26 (by decide) (fun hw3 => ?_) (fun hw3 => ?_)
      · skip
        refine g_aload_n (v := ad 0) cx dX9_readLast_31 rfl ?_
        refine g_get (v := .ref (ad 2)) cx fk_X9_13 dX9_readLast_32 0 rfl rfl ?_
        refine g_bipush (v := 9) cx dX9_readLast_35 (by decide) ?_
        refine g_aload_n (v := ad 0) cx dX9_readLast_37 rfl ?_
        refine g_get (v := .ref (ad 2)) cx fk_X9_13 dX9_readLast_38 0 rfl rfl ?_
        refine g_iconst (v := 0) cx dX9_readLast_41 (by decide) ?_
        refine g_iald cx dX9_readLast_42 2 0 rfl (nl 0) (by omega) (by first | decide | omega) ?_
        refine g_top (y := rw 0) (rfl) ?_
        refine g_iadd cx dX9_readLast_43 ?_
        refine g_aload_n (v := ad 0) cx dX9_readLast_44 rfl ?_
        refine g_get (v := .int (mV tx z (mS tx z p).1 (mS tx z p).2)) cx fk_X9_80 dX9_readLast_45 0 rfl rfl ?_
        refine g_iast (ws' := wMo V ad nw (upd rw (9 + (qn rw)) (mV tx z (mS tx z p).1 (mS tx z p).2)) ps im kp tx sw sv da co pl me fa ao al de (nI z) (nI (tX tx z (mS tx z p).1)) (nI (tP tx z (mS tx z p).1)) (mK tx z (mS tx z p).1) (mV tx z (mS tx z p).1 (mS tx z p).2) se il) cx dX9_readLast_48 2 (9 + (qn rw)) rfl (rf_add (nl 9) hn) (by omega) (by first | decide | omega) rfl ?_
        refine g_aload_n (v := ad 0) cx dX9_readLast_49 rfl ?_
        refine g_get (v := .ref (ad 2)) cx fk_X9_13 dX9_readLast_50 0 rfl rfl ?_
        refine g_iconst (v := 1) cx dX9_readLast_53 (by decide) ?_
        refine g_iconst (v := 1) cx dX9_readLast_54 (by decide) ?_
        refine g_iast (ws' := wMo V ad nw (upd (upd rw (9 + (qn rw)) (mV tx z (mS tx z p).1 (mS tx z p).2)) 1 1) ps im kp tx sw sv da co pl me fa ao al de (nI z) (nI (tX tx z (mS tx z p).1)) (nI (tP tx z (mS tx z p).1)) (mK tx z (mS tx z p).1) (mV tx z (mS tx z p).1 (mS tx z p).2) se il) cx dX9_readLast_55 2 1 rfl (nl 1) (by omega) (by first | decide | omega) rfl ?_
        refine g_aload_n (v := ad 0) cx dX9_readLast_56 rfl ?_
        refine w_calli (r0 := bI (mK tx z (mS tx z (mS tx z p)).1 = 59)) (ws' := wMo V ad nw (upd (upd rw (9 + (qn rw)) (mV tx z (mS tx z p).1 (mS tx z p).2)) 1 1) ps im kp tx sw sv da co pl me fa ao al de (nI z) (nI (tX tx z (mS tx z (mS tx z p)).1)) (nI (tP tx z (mS tx z (mS tx z p)).1)) (mK tx z (mS tx z (mS tx z p)).1) (mV tx z (mS tx z (mS tx z p)).1 (mS tx z (mS tx z p)).2) se il) (As := []) (rest := []) cx (c_X9_scanEnd V ad nw (upd (upd rw (9 + (qn rw)) (mV tx z (mS tx z p).1 (mS tx z p).2)) 1 1) ps im kp tx sw sv da co pl me fa ao al de se il z (mS tx z p) hz (mS_le (hp))) ml_X9_94 dX9_readLast_57 (q0 := 0) rfl rfl rfl rfl rfl (Nat.le_of_ble_eq_true rfl) ⟨Nat.le_of_ble_eq_true rfl, Nat.le_of_ble_eq_true rfl⟩ ⟨Nat.le_refl _, Nat.le_refl _⟩ ?_
        exact hret _ _ _ _ dX9_readLast_60 (by first | rfl | exact rf_bnar) (⟨by rw [mqLast, if_neg hw1, if_neg hw2, if_neg (not_not_intro hw3)]; simp only [decide_eq_true_eq], by rw [mqLast, if_neg hw1, if_neg hw2, if_neg (not_not_intro hw3)] <;> rfl⟩)
      · skip
        refine g_iconst (v := 0) cx dX9_readLast_29 (by decide) ?_
        exact hret _ _ _ _ dX9_readLast_30 (by first | rfl | exact rf_bnar) (⟨by rw [mqLast, if_neg hw1, if_neg hw2, if_pos hw3]; rfl, by rw [mqLast, if_neg hw1, if_neg hw2, if_pos hw3] <;> rfl⟩)
def rm_X9_readLimit : Room := { frames := 3, cells := 0, slots := 0, locals := 65 }
set_option maxRecDepth 100000 in
set_option maxHeartbeats 4000000 in
theorem c_X9_readLimit (V : VT) (ad : Nat → Nat) (nw rw ps im kp tx sw sv da co pl me fa ao al : Nat → Int32) (de se il : Int32) (z : Nat) (p : Nat × Int32) (hz : z ≤ 120) (hp : p.1 ≤ z) : CI V yX9_readLimit cX9_readLimit 1 .boolean rm_X9_readLimit [.ref (ad 0)] (wMo V ad nw rw ps im kp tx sw sv da co pl me fa ao al de (nI z) (nI (tX tx z p.1)) (nI (tP tx z p.1)) (mK tx z p.1) (mV tx z p.1 p.2) se il) (fun r_ w_ => r_ = bI ((mqLimit tx z rw il p).1 = true) ∧ w_ = wMo V ad nw ((mqLimit tx z rw il p).2.1) ps im kp tx sw sv da co pl me fa ao al de (nI z) (nI (tX tx z ((mqLimit tx z rw il p).2.2.2).1)) (nI (tP tx z ((mqLimit tx z rw il p).2.2.2).1)) (mK tx z ((mqLimit tx z rw il p).2.2.2).1) (mV tx z ((mqLimit tx z rw il p).2.2.2).1 ((mqLimit tx z rw il p).2.2.2).2) se ((mqLimit tx z rw il p).2.2.1)) := by
  refine CI_intro (by decide) (Nat.le_of_ble_eq_true rfl) (fun K cx hret => ?_)
  show G V K 1 0 0 (wMo V ad nw rw ps im kp tx sw sv da co pl me fa ao al de (nI z) (nI (tX tx z p.1)) (nI (tP tx z p.1)) (mK tx z p.1) (mV tx z p.1 p.2) se il) 0 [(0, .ref (ad 0))] []
  refine g_aload_n (v := ad 0) cx dX9_readLimit_0 rfl ?_
  refine g_get (v := .int il) cx fk_X9_98 dX9_readLimit_1 0 rfl rfl ?_
  refine g_if_ne cx 17 dX9_readLimit_4 (by decide) (fun hw1 => ?_) (fun hw1 => ?_)
  · skip
    refine g_iconst (v := 0) cx dX9_readLimit_17 (by decide) ?_
    exact hret _ _ _ _ dX9_readLimit_18 (by first | rfl | exact rf_bnar) (⟨by rw [mqLimit, if_pos hw1]; rfl, by rw [mqLimit, if_pos hw1] <;> rfl⟩)
  · skip
    refine g_aload_n (v := ad 0) cx dX9_readLimit_7 rfl ?_
    refine g_iconst (v := 1) cx dX9_readLimit_8 (by decide) ?_
    refine g_bipush (v := 9) cx dX9_readLimit_9 (by decide) ?_
    refine w_calli (r0 := bI (mO tx z (mS tx z p) 1 9)) (ws' := wMo V ad nw rw ps im kp tx sw sv da co pl me fa ao al de (nI z) (nI (tX tx z (mS tx z p).1)) (nI (tP tx z (mS tx z p).1)) (mK tx z (mS tx z p).1) (mV tx z (mS tx z p).1 (mS tx z p).2) se il) (As := [.int 1, .int 9]) (rest := []) cx (c_X9_scanNumber V ad nw rw ps im kp tx sw sv da co pl me fa ao al de se il 1 9 z p hz hp) ml_X9_90 dX9_readLimit_11 (q0 := 0) rfl rfl rfl rfl rfl (Nat.le_of_ble_eq_true rfl) ⟨Nat.le_of_ble_eq_true rfl, Nat.le_of_ble_eq_true rfl⟩ ⟨Nat.le_refl _, Nat.le_refl _⟩ ?_
    refine g_if_ne_b cx 19 dX9_readLimit_14 (by decide) (fun hw2 => ?_) (fun hw2 => ?_)
    · skip
      refine g_aload_n (v := ad 0) cx dX9_readLimit_19 rfl ?_
      refine g_get (v := .ref (ad 2)) cx fk_X9_13 dX9_readLimit_20 0 rfl rfl ?_
      refine g_iconst (v := 2) cx dX9_readLimit_23 (by decide) ?_
      refine g_aload_n (v := ad 0) cx dX9_readLimit_24 rfl ?_
      refine g_get (v := .int (mV tx z (mS tx z p).1 (mS tx z p).2)) cx fk_X9_80 dX9_readLimit_25 0 rfl rfl ?_
      refine g_iast (ws' := wMo V ad nw (upd rw 2 (mV tx z (mS tx z p).1 (mS tx z p).2)) ps im kp tx sw sv da co pl me fa ao al de (nI z) (nI (tX tx z (mS tx z p).1)) (nI (tP tx z (mS tx z p).1)) (mK tx z (mS tx z p).1) (mV tx z (mS tx z p).1 (mS tx z p).2) se il) cx dX9_readLimit_28 2 2 rfl (nl 2) (by omega) (by first | decide | omega) rfl ?_
      refine g_aload_n (v := ad 0) cx dX9_readLimit_29 rfl ?_
      refine g_iconst (v := 1) cx dX9_readLimit_30 (by decide) ?_
      refine g_put (ws' := wMo V ad nw (upd rw 2 (mV tx z (mS tx z p).1 (mS tx z p).2)) ps im kp tx sw sv da co pl me fa ao al de (nI z) (nI (tX tx z (mS tx z p).1)) (nI (tP tx z (mS tx z p).1)) (mK tx z (mS tx z p).1) (mV tx z (mS tx z p).1 (mS tx z p).2) se 1) cx fk_X9_98 dX9_readLimit_31 0 rfl (rfl) (rfl) (Nat.le_of_ble_eq_true rfl) rfl ?_
      refine g_aload_n (v := ad 0) cx dX9_readLimit_34 rfl ?_
      refine w_calli (r0 := bI (mK tx z (mS tx z (mS tx z p)).1 = 59)) (ws' := wMo V ad nw (upd rw 2 (mV tx z (mS tx z p).1 (mS tx z p).2)) ps im kp tx sw sv da co pl me fa ao al de (nI z) (nI (tX tx z (mS tx z (mS tx z p)).1)) (nI (tP tx z (mS tx z (mS tx z p)).1)) (mK tx z (mS tx z (mS tx z p)).1) (mV tx z (mS tx z (mS tx z p)).1 (mS tx z (mS tx z p)).2) se 1) (As := []) (rest := []) cx (c_X9_scanEnd V ad nw (upd rw 2 (mV tx z (mS tx z p).1 (mS tx z p).2)) ps im kp tx sw sv da co pl me fa ao al de se 1 z (mS tx z p) hz (mS_le (hp))) ml_X9_94 dX9_readLimit_35 (q0 := 0) rfl rfl rfl rfl rfl (Nat.le_of_ble_eq_true rfl) ⟨Nat.le_of_ble_eq_true rfl, Nat.le_of_ble_eq_true rfl⟩ ⟨Nat.le_refl _, Nat.le_refl _⟩ ?_
      exact hret _ _ _ _ dX9_readLimit_38 (by first | rfl | exact rf_bnar) (⟨by rw [mqLimit, if_neg (not_not_intro hw1), if_neg (not_not_intro hw2)]; simp only [decide_eq_true_eq], by rw [mqLimit, if_neg (not_not_intro hw1), if_neg (not_not_intro hw2)] <;> rfl⟩)
    · skip
      refine g_iconst (v := 0) cx dX9_readLimit_17 (by decide) ?_
      exact hret _ _ _ _ dX9_readLimit_18 (by first | rfl | exact rf_bnar) (⟨by rw [mqLimit, if_neg (not_not_intro hw1), if_pos hw2]; rfl, by rw [mqLimit, if_neg (not_not_intro hw1), if_pos hw2] <;> rfl⟩)
