def mqO3 (L : Nat → Int32) (z : Nat) (r : Nat) (Q : Nat → Int32) (p : Nat × Int32) : Bool × (Nat → Int32) × (Nat × Int32) :=
  if ¬ mO L z (mS L z p) 0 3 then (false, Q, mS L z p)
  else if ¬ mO L z (mS L z (mS L z p)) 0 255 then (false, upd Q (r + 3) (mU L z (mS L z p)), mS L z (mS L z p))
  else (decide (mK L z (mS L z (mS L z (mS L z p))).1 = 59), upd (upd (upd Q (r + 3) (mU L z (mS L z p))) (r + 4) (mU L z (mS L z (mS L z p)))) 3 ((upd (upd Q (r + 3) (mU L z (mS L z p))) (r + 4) (mU L z (mS L z (mS L z p)))) 3 + 1), mS L z (mS L z (mS L z p)))
def mqO2 (L : Nat → Int32) (z : Nat) (r : Nat) (Q : Nat → Int32) (p : Nat × Int32) : Bool × (Nat → Int32) × (Nat × Int32) :=
  if ¬ mO L z (mS L z p) 0 15 then (false, Q, mS L z p) else mqO3 L z r (upd Q (r + 2) (mU L z (mS L z p))) (mS L z p)
def mqO1 (L : Nat → Int32) (z : Nat) (r : Nat) (Q : Nat → Int32) (p : Nat × Int32) : Bool × (Nat → Int32) × (Nat × Int32) :=
  if mK L z p.1 = 112 then mqO2 L z r Q p else if mK L z p.1 = 115 then mqO2 L z r Q p else if mK L z p.1 = 98 then mqO3 L z r Q p else (false, Q, p)
def mqOrder (L : Nat → Int32) (z : Nat) (Q : Nat → Int32) (p : Nat × Int32) : Bool × (Nat → Int32) × (Nat × Int32) :=
  if Q 3 = 4 then (false, Q, p) else mqO1 L z (71 + 5 * qo Q) (upd (upd (upd Q (71 + 5 * qo Q) (mK L z p.1)) (71 + 5 * qo Q + 1) (mK L z (mS L z p).1)) (71 + 5 * qo Q + 2) (-9)) (mS L z p)
def mqOrd (L : Nat → Int32) (z : Nat) (Q : Nat → Int32) (p : Nat × Int32) : Bool × (Nat → Int32) × (Nat × Int32) :=
  if mK L z p.1 = 114 then mqOrder L z Q p else if mK L z p.1 = 119 then mqOrder L z Q p else if mK L z p.1 = 120 then mqOrder L z Q p else (false, Q, p)
def mqFrame (L : Nat → Int32) (z : Nat) : Nat → (Nat → Int32) → (Nat × Int32) → Int32 × (Nat → Int32) × (Nat × Int32)
  | 0, Q, p => (0, Q, p)
  | f + 1, Q, p => if mK L z p.1 = 2 then ((if Q 3 = 0 then nI z else -9), Q, p)
    else if (mqOrd L z Q p).1 = true then mqFrame L z f (mqOrd L z Q p).2.1 (mS L z (mqOrd L z Q p).2.2)
    else (nI (tP L z (mqOrd L z Q p).2.2.1), (mqOrd L z Q p).2)
def okQo (Q : Nat → Int32) : Prop := Q 3 = nI (qo Q) ∧ qo Q ≤ 4
theorem okQo_of {Q : Nat → Int32} {n : Nat} (h : Q 3 = nI n) (hn : n ≤ 4) : okQo Q := by
  have e : qo Q = n := by unfold qo; rw [h]; exact nI_clamp (by omega)
  exact ⟨by rw [e]; exact h, by omega⟩
theorem mqO3_ok {L : Nat → Int32} {z r o : Nat} {Q : Nat → Int32} {p : Nat × Int32} (hr : 71 ≤ r) (hp : p.1 ≤ z) (hQ : Q 3 = nI o) (ho : o < 4) (hg : (mqO3 L z r Q p).1 = true) : okQo (mqO3 L z r Q p).2.1 ∧ (mqO3 L z r Q p).2.2.1 ≤ z ∧ p.1 ≤ (mqO3 L z r Q p).2.2.1 := by
  revert hg
  unfold mqO3
  by_cases h1 : mO L z (mS L z p) 0 3
  · rw [if_neg (not_not_intro h1)]
    by_cases h2 : mO L z (mS L z (mS L z p)) 0 255
    · rw [if_neg (not_not_intro h2)]
      intro _
      refine ⟨okQo_of (n := o + 1) ?_ (by omega), mS_le (mS_le (mS_le hp)), Nat.le_trans mS_ge (Nat.le_trans mS_ge mS_ge)⟩
      show (upd (upd (upd Q (r + 3) (mU L z (mS L z p))) (r + 4) (mU L z (mS L z (mS L z p)))) 3 ((upd (upd Q (r + 3) (mU L z (mS L z p))) (r + 4) (mU L z (mS L z (mS L z p)))) 3 + 1)) 3 = _
      rw [pk_us, pk_un (by omega), pk_un (by omega), hQ, nI_1]
    · rw [if_pos h2]; intro hg; exact absurd hg Bool.false_ne_true
  · rw [if_pos h1]; intro hg; exact absurd hg Bool.false_ne_true
theorem mqO2_ok {L : Nat → Int32} {z r o : Nat} {Q : Nat → Int32} {p : Nat × Int32} (hr : 71 ≤ r) (hp : p.1 ≤ z) (hQ : Q 3 = nI o) (ho : o < 4) (hg : (mqO2 L z r Q p).1 = true) : okQo (mqO2 L z r Q p).2.1 ∧ (mqO2 L z r Q p).2.2.1 ≤ z ∧ p.1 ≤ (mqO2 L z r Q p).2.2.1 := by
  revert hg
  unfold mqO2
  by_cases h1 : mO L z (mS L z p) 0 15
  · rw [if_neg (not_not_intro h1)]
    intro hg
    obtain ⟨a, b, c⟩ := mqO3_ok hr (mS_le hp) (by rw [pk_un (by omega)]; exact hQ) ho hg
    exact ⟨a, b, Nat.le_trans mS_ge c⟩
  · rw [if_pos h1]; intro hg; exact absurd hg Bool.false_ne_true
theorem mqO1_ok {L : Nat → Int32} {z r o : Nat} {Q : Nat → Int32} {p : Nat × Int32} (hr : 71 ≤ r) (hp : p.1 ≤ z) (hQ : Q 3 = nI o) (ho : o < 4) (hg : (mqO1 L z r Q p).1 = true) : okQo (mqO1 L z r Q p).2.1 ∧ (mqO1 L z r Q p).2.2.1 ≤ z ∧ p.1 ≤ (mqO1 L z r Q p).2.2.1 := by
  revert hg
  unfold mqO1
  by_cases h1 : mK L z p.1 = 112
  · rw [if_pos h1]; exact mqO2_ok hr hp hQ ho
  · rw [if_neg h1]
    by_cases h2 : mK L z p.1 = 115
    · rw [if_pos h2]; exact mqO2_ok hr hp hQ ho
    · rw [if_neg h2]
      by_cases h3 : mK L z p.1 = 98
      · rw [if_pos h3]; exact mqO3_ok hr hp hQ ho
      · rw [if_neg h3]; intro hg; exact absurd hg Bool.false_ne_true
theorem mqOrder_ok {L : Nat → Int32} {z : Nat} {Q : Nat → Int32} {p : Nat × Int32} (hp : p.1 ≤ z) (hQ : okQo Q) (hg : (mqOrder L z Q p).1 = true) : okQo (mqOrder L z Q p).2.1 ∧ (mqOrder L z Q p).2.2.1 ≤ z ∧ (mS L z p).1 ≤ (mqOrder L z Q p).2.2.1 := by
  revert hg
  unfold mqOrder
  by_cases h0 : Q 3 = 4
  · rw [if_pos h0]; intro hg; exact absurd hg Bool.false_ne_true
  · rw [if_neg h0]
    have hn : qo Q < 4 := by
      have h4 := hQ.2
      rcases Nat.lt_or_ge (qo Q) 4 with c | c
      · exact c
      · exact absurd (by rw [hQ.1, show qo Q = 4 by omega]; rfl) h0
    exact mqO1_ok (by omega) (mS_le hp) (by rw [pk_un (by omega), pk_un (by omega), pk_un (by omega)]; exact hQ.1) hn
theorem mqOrd_ok {L : Nat → Int32} {z : Nat} {Q : Nat → Int32} {p : Nat × Int32} (hp : p.1 ≤ z) (hQ : okQo Q) (hg : (mqOrd L z Q p).1 = true) : okQo (mqOrd L z Q p).2.1 ∧ (mqOrd L z Q p).2.2.1 ≤ z ∧ (mS L z p).1 ≤ (mqOrd L z Q p).2.2.1 := by
  revert hg
  unfold mqOrd
  by_cases h1 : mK L z p.1 = 114
  · rw [if_pos h1]; exact mqOrder_ok hp hQ
  · rw [if_neg h1]
    by_cases h2 : mK L z p.1 = 119
    · rw [if_pos h2]; exact mqOrder_ok hp hQ
    · rw [if_neg h2]
      by_cases h3 : mK L z p.1 = 120
      · rw [if_pos h3]; exact mqOrder_ok hp hQ
      · rw [if_neg h3]; intro hg; exact absurd hg Bool.false_ne_true
theorem mBeg_3 (f : Nat → Int32) : mBeg f 3 = 0 := by
  unfold mBeg
  rw [pk_un (by decide), pk_un (by decide), pk_un (by decide)]
  unfold rFill
  rw [fl_fill]
  rfl
def rm_X9_readOrder : Room := { frames := 3, cells := 0, slots := 0, locals := 65 }
set_option maxRecDepth 100000 in
set_option maxHeartbeats 4000000 in
theorem c_X9_readOrder (V : VT) (ad : Nat → Nat) (nw rw ps im kp tx sw sv da co pl me fa ao al : Nat → Int32) (de se il : Int32) (z : Nat) (p : Nat × Int32) (hz : z ≤ 120) (hp : p.1 ≤ z) (ho : rw 3 = nI (qo rw)) (ho4 : qo rw ≤ 4) : CI V yX9_readOrder cX9_readOrder 2 .boolean rm_X9_readOrder [.ref (ad 0)] (wMo V ad nw rw ps im kp tx sw sv da co pl me fa ao al de (nI z) (nI (tX tx z p.1)) (nI (tP tx z p.1)) (mK tx z p.1) (mV tx z p.1 p.2) se il) (fun r_ w_ => r_ = bI ((mqOrder tx z rw p).1 = true) ∧ w_ = wMo V ad nw ((mqOrder tx z rw p).2.1) ps im kp tx sw sv da co pl me fa ao al de (nI z) (nI (tX tx z ((mqOrder tx z rw p).2.2).1)) (nI (tP tx z ((mqOrder tx z rw p).2.2).1)) (mK tx z ((mqOrder tx z rw p).2.2).1) (mV tx z ((mqOrder tx z rw p).2.2).1 ((mqOrder tx z rw p).2.2).2) se il) := by
  refine CI_intro (by decide) (Nat.le_of_ble_eq_true rfl) (fun K cx hret => ?_)
  show G V K 2 0 0 (wMo V ad nw rw ps im kp tx sw sv da co pl me fa ao al de (nI z) (nI (tX tx z p.1)) (nI (tP tx z p.1)) (mK tx z p.1) (mV tx z p.1 p.2) se il) 0 [(0, .ref (ad 0))] []
  refine g_aload_n (v := ad 0) cx dX9_readOrder_0 rfl ?_
  refine g_get (v := .ref (ad 2)) cx fk_X9_13 dX9_readOrder_1 0 rfl rfl ?_
  refine g_iconst (v := 3) cx dX9_readOrder_4 (by decide) ?_
  refine g_iald cx dX9_readOrder_5 2 3 rfl (nl 3) (by omega) (by first | decide | omega) ?_
  refine g_top (y := rw 3) (rfl) ?_
  refine g_iconst (v := 4) cx dX9_readOrder_6 (by decide) ?_
  refine g_icmp_ne cx 12 dX9_readOrder_7 (by decide) (fun hw1 => ?_) (fun hw1 => ?_)
  · skip
    have hw1e := hw1
    have hlt4 : qo rw < 4 := by have := rf_eqN ho (nl 4) (by omega) (by omega) hw1; omega
    refine g_bipush (v := 71) cx dX9_readOrder_12 (by decide) ?_
    refine g_iconst (v := 5) cx dX9_readOrder_14 (by decide) ?_
    refine g_aload_n (v := ad 0) cx dX9_readOrder_15 rfl ?_
    refine g_get (v := .ref (ad 2)) cx fk_X9_13 dX9_readOrder_16 0 rfl rfl ?_
    refine g_iconst (v := 3) cx dX9_readOrder_19 (by decide) ?_
    refine g_iald cx dX9_readOrder_20 2 3 rfl (nl 3) (by omega) (by first | decide | omega) ?_
    refine g_top (y := rw 3) (rfl) ?_
    refine g_imul cx dX9_readOrder_21 ?_
    refine g_iadd cx dX9_readOrder_22 ?_
    refine g_istore_n (lv' := [(0, .ref (ad 0)), (1, .int (71 + (5 * (rw 3))))]) cx dX9_readOrder_23 (by decide) rfl ?_
    refine g_aload_n (v := ad 0) cx dX9_readOrder_24 rfl ?_
    refine g_get (v := .ref (ad 2)) cx fk_X9_13 dX9_readOrder_25 0 rfl rfl ?_
    refine g_iload_n (v := 71 + (5 * (rw 3))) cx dX9_readOrder_28 rfl ?_
    refine g_aload_n (v := ad 0) cx dX9_readOrder_29 rfl ?_
    refine g_get (v := .int (mK tx z p.1)) cx fk_X9_73 dX9_readOrder_30 0 rfl rfl ?_
    refine g_iast (ws' := wMo V ad nw (upd rw (71 + (5 * (qo rw))) (mK tx z p.1)) ps im kp tx sw sv da co pl me fa ao al de (nI z) (nI (tX tx z p.1)) (nI (tP tx z p.1)) (mK tx z p.1) (mV tx z p.1 p.2) se il) cx dX9_readOrder_33 2 (71 + (5 * (qo rw))) rfl (rf_add (nl 71) (rf_mul (nl 5) ho)) (by omega) (by first | decide | omega) rfl ?_
    refine g_aload_n (v := ad 0) cx dX9_readOrder_34 rfl ?_
    refine w_callv (ws' := wMo V ad nw (upd rw (71 + (5 * (qo rw))) (mK tx z p.1)) ps im kp tx sw sv da co pl me fa ao al de (nI z) (nI (tX tx z (mS tx z p).1)) (nI (tP tx z (mS tx z p).1)) (mK tx z (mS tx z p).1) (mV tx z (mS tx z p).1 (mS tx z p).2) se il) (As := []) (rest := []) cx (c_X9_scan V ad nw (upd rw (71 + (5 * (qo rw))) (mK tx z p.1)) ps im kp tx sw sv da co pl me fa ao al de (nI (tP tx z p.1)) (mK tx z p.1) (mV tx z p.1 p.2) se il z (tX tx z p.1) hz (mS_le (hp))) ml_X9_87 dX9_readOrder_35 (q0 := 0) rfl rfl rfl rfl rfl (Nat.le_of_ble_eq_true rfl) ⟨Nat.le_of_ble_eq_true rfl, Nat.le_of_ble_eq_true rfl⟩ ⟨Nat.le_refl _, Nat.le_refl _⟩ ?_
    refine g_aload_n (v := ad 0) cx dX9_readOrder_38 rfl ?_
    refine g_get (v := .ref (ad 2)) cx fk_X9_13 dX9_readOrder_39 0 rfl rfl ?_
    refine g_iload_n (v := 71 + (5 * (rw 3))) cx dX9_readOrder_42 rfl ?_
    refine g_iconst (v := 1) cx dX9_readOrder_43 (by decide) ?_
    refine g_iadd cx dX9_readOrder_44 ?_
    refine g_aload_n (v := ad 0) cx dX9_readOrder_45 rfl ?_
    refine g_get (v := .int (mK tx z (mS tx z p).1)) cx fk_X9_73 dX9_readOrder_46 0 rfl rfl ?_
    refine g_iast (ws' := wMo V ad nw (upd (upd rw (71 + (5 * (qo rw))) (mK tx z p.1)) ((71 + (5 * (qo rw))) + 1) (mK tx z (mS tx z p).1)) ps im kp tx sw sv da co pl me fa ao al de (nI z) (nI (tX tx z (mS tx z p).1)) (nI (tP tx z (mS tx z p).1)) (mK tx z (mS tx z p).1) (mV tx z (mS tx z p).1 (mS tx z p).2) se il) cx dX9_readOrder_49 2 ((71 + (5 * (qo rw))) + 1) rfl (rf_add (rf_add (nl 71) (rf_mul (nl 5) ho)) (nl 1)) (by omega) (by first | decide | omega) rfl ?_
    refine g_aload_n (v := ad 0) cx dX9_readOrder_50 rfl ?_
    refine g_get (v := .ref (ad 2)) cx fk_X9_13 dX9_readOrder_51 0 rfl rfl ?_
    refine g_iload_n (v := 71 + (5 * (rw 3))) cx dX9_readOrder_54 rfl ?_
    refine g_iconst (v := 2) cx dX9_readOrder_55 (by decide) ?_
    refine g_iadd cx dX9_readOrder_56 ?_
    refine g_bipush (v := (-9)) cx dX9_readOrder_57 (by decide) ?_
    refine g_iast (ws' := wMo V ad nw (upd (upd (upd rw (71 + (5 * (qo rw))) (mK tx z p.1)) ((71 + (5 * (qo rw))) + 1) (mK tx z (mS tx z p).1)) ((71 + (5 * (qo rw))) + 2) (-9)) ps im kp tx sw sv da co pl me fa ao al de (nI z) (nI (tX tx z (mS tx z p).1)) (nI (tP tx z (mS tx z p).1)) (mK tx z (mS tx z p).1) (mV tx z (mS tx z p).1 (mS tx z p).2) se il) cx dX9_readOrder_59 2 ((71 + (5 * (qo rw))) + 2) rfl (rf_add (rf_add (nl 71) (rf_mul (nl 5) ho)) (nl 2)) (by omega) (by first | decide | omega) rfl ?_
    refine g_aload_n (v := ad 0) cx dX9_readOrder_60 rfl ?_
    refine g_get (v := .int (mK tx z (mS tx z p).1)) cx fk_X9_73 dX9_readOrder_61 0 rfl rfl ?_
    refine g_bipush (v := 112) cx dX9_readOrder_64 (by decide) ?_
    refine g_icmp_eq cx 78 dX9_readOrder_66 (by decide) (fun hw2 => ?_) (fun hw2 => ?_)
    · skip
      refine g_aload_n (v := ad 0) cx dX9_readOrder_78 rfl ?_
      refine g_iconst (v := 0) cx dX9_readOrder_79 (by decide) ?_
      refine g_bipush (v := 15) cx dX9_readOrder_80 (by decide) ?_
      refine w_calli (r0 := bI (mO tx z (mS tx z (mS tx z p)) 0 15)) (ws' := wMo V ad nw (upd (upd (upd rw (71 + (5 * (qo rw))) (mK tx z p.1)) ((71 + (5 * (qo rw))) + 1) (mK tx z (mS tx z p).1)) ((71 + (5 * (qo rw))) + 2) (-9)) ps im kp tx sw sv da co pl me fa ao al de (nI z) (nI (tX tx z (mS tx z (mS tx z p)).1)) (nI (tP tx z (mS tx z (mS tx z p)).1)) (mK tx z (mS tx z (mS tx z p)).1) (mV tx z (mS tx z (mS tx z p)).1 (mS tx z (mS tx z p)).2) se il) (As := [.int 0, .int 15]) (rest := []) cx (c_X9_scanNumber V ad nw (upd (upd (upd rw (71 + (5 * (qo rw))) (mK tx z p.1)) ((71 + (5 * (qo rw))) + 1) (mK tx z (mS tx z p).1)) ((71 + (5 * (qo rw))) + 2) (-9)) ps im kp tx sw sv da co pl me fa ao al de se il 0 15 z (mS tx z p) hz (mS_le (hp))) ml_X9_90 dX9_readOrder_82 (q0 := 0) rfl rfl rfl rfl rfl (Nat.le_of_ble_eq_true rfl) ⟨Nat.le_of_ble_eq_true rfl, Nat.le_of_ble_eq_true rfl⟩ ⟨Nat.le_refl _, Nat.le_refl _⟩ ?_
      refine g_if_ne_b cx 90 dX9_readOrder_85 (by decide) (fun hw3 => ?_) (fun hw3 => ?_)
      · skip
        refine g_aload_n (v := ad 0) cx dX9_readOrder_90 rfl ?_
        refine g_get (v := .ref (ad 2)) cx fk_X9_13 dX9_readOrder_91 0 rfl rfl ?_
        refine g_iload_n (v := 71 + (5 * (rw 3))) cx dX9_readOrder_94 rfl ?_
        refine g_iconst (v := 2) cx dX9_readOrder_95 (by decide) ?_
        refine g_iadd cx dX9_readOrder_96 ?_
        refine g_aload_n (v := ad 0) cx dX9_readOrder_97 rfl ?_
        refine g_get (v := .int (mV tx z (mS tx z (mS tx z p)).1 (mS tx z (mS tx z p)).2)) cx fk_X9_80 dX9_readOrder_98 0 rfl rfl ?_
        refine g_iast (ws' := wMo V ad nw (upd (upd (upd (upd rw (71 + (5 * (qo rw))) (mK tx z p.1)) ((71 + (5 * (qo rw))) + 1) (mK tx z (mS tx z p).1)) ((71 + (5 * (qo rw))) + 2) (-9)) ((71 + (5 * (qo rw))) + 2) (mV tx z (mS tx z (mS tx z p)).1 (mS tx z (mS tx z p)).2)) ps im kp tx sw sv da co pl me fa ao al de (nI z) (nI (tX tx z (mS tx z (mS tx z p)).1)) (nI (tP tx z (mS tx z (mS tx z p)).1)) (mK tx z (mS tx z (mS tx z p)).1) (mV tx z (mS tx z (mS tx z p)).1 (mS tx z (mS tx z p)).2) se il) cx dX9_readOrder_101 2 ((71 + (5 * (qo rw))) + 2) rfl (rf_add (rf_add (nl 71) (rf_mul (nl 5) ho)) (nl 2)) (by omega) (by first | decide | omega) rfl ?_
        refine g_goto cx 116 dX9_readOrder_102 (by decide) ?_
        refine g_aload_n (v := ad 0) cx dX9_readOrder_116 rfl ?_
        refine g_iconst (v := 0) cx dX9_readOrder_117 (by decide) ?_
        refine g_iconst (v := 3) cx dX9_readOrder_118 (by decide) ?_
        refine w_calli (r0 := bI (mO tx z (mS tx z (mS tx z (mS tx z p))) 0 3)) (ws' := wMo V ad nw (upd (upd (upd (upd rw (71 + (5 * (qo rw))) (mK tx z p.1)) ((71 + (5 * (qo rw))) + 1) (mK tx z (mS tx z p).1)) ((71 + (5 * (qo rw))) + 2) (-9)) ((71 + (5 * (qo rw))) + 2) (mV tx z (mS tx z (mS tx z p)).1 (mS tx z (mS tx z p)).2)) ps im kp tx sw sv da co pl me fa ao al de (nI z) (nI (tX tx z (mS tx z (mS tx z (mS tx z p))).1)) (nI (tP tx z (mS tx z (mS tx z (mS tx z p))).1)) (mK tx z (mS tx z (mS tx z (mS tx z p))).1) (mV tx z (mS tx z (mS tx z (mS tx z p))).1 (mS tx z (mS tx z (mS tx z p))).2) se il) (As := [.int 0, .int 3]) (rest := []) cx (c_X9_scanNumber V ad nw (upd (upd (upd (upd rw (71 + (5 * (qo rw))) (mK tx z p.1)) ((71 + (5 * (qo rw))) + 1) (mK tx z (mS tx z p).1)) ((71 + (5 * (qo rw))) + 2) (-9)) ((71 + (5 * (qo rw))) + 2) (mV tx z (mS tx z (mS tx z p)).1 (mS tx z (mS tx z p)).2)) ps im kp tx sw sv da co pl me fa ao al de se il 0 3 z (mS tx z (mS tx z p)) hz (mS_le (mS_le (hp)))) ml_X9_90 dX9_readOrder_119 (q0 := 0) rfl rfl rfl rfl rfl (Nat.le_of_ble_eq_true rfl) ⟨Nat.le_of_ble_eq_true rfl, Nat.le_of_ble_eq_true rfl⟩ ⟨Nat.le_refl _, Nat.le_refl _⟩ ?_
        refine g_if_ne_b cx 127 dX9_readOrder_122 (by decide) (fun hw4 => ?_) (fun hw4 => ?_)
        · skip
          refine g_aload_n (v := ad 0) cx dX9_readOrder_127 rfl ?_
          refine g_get (v := .ref (ad 2)) cx fk_X9_13 dX9_readOrder_128 0 rfl rfl ?_
          refine g_iload_n (v := 71 + (5 * (rw 3))) cx dX9_readOrder_131 rfl ?_
          refine g_iconst (v := 3) cx dX9_readOrder_132 (by decide) ?_
          refine g_iadd cx dX9_readOrder_133 ?_
          refine g_aload_n (v := ad 0) cx dX9_readOrder_134 rfl ?_
          refine g_get (v := .int (mV tx z (mS tx z (mS tx z (mS tx z p))).1 (mS tx z (mS tx z (mS tx z p))).2)) cx fk_X9_80 dX9_readOrder_135 0 rfl rfl ?_
          refine g_iast (ws' := wMo V ad nw (upd (upd (upd (upd (upd rw (71 + (5 * (qo rw))) (mK tx z p.1)) ((71 + (5 * (qo rw))) + 1) (mK tx z (mS tx z p).1)) ((71 + (5 * (qo rw))) + 2) (-9)) ((71 + (5 * (qo rw))) + 2) (mV tx z (mS tx z (mS tx z p)).1 (mS tx z (mS tx z p)).2)) ((71 + (5 * (qo rw))) + 3) (mV tx z (mS tx z (mS tx z (mS tx z p))).1 (mS tx z (mS tx z (mS tx z p))).2)) ps im kp tx sw sv da co pl me fa ao al de (nI z) (nI (tX tx z (mS tx z (mS tx z (mS tx z p))).1)) (nI (tP tx z (mS tx z (mS tx z (mS tx z p))).1)) (mK tx z (mS tx z (mS tx z (mS tx z p))).1) (mV tx z (mS tx z (mS tx z (mS tx z p))).1 (mS tx z (mS tx z (mS tx z p))).2) se il) cx dX9_readOrder_138 2 ((71 + (5 * (qo rw))) + 3) rfl (rf_add (rf_add (nl 71) (rf_mul (nl 5) ho)) (nl 3)) (by omega) (by first | decide | omega) rfl ?_
          refine g_aload_n (v := ad 0) cx dX9_readOrder_139 rfl ?_
          refine g_iconst (v := 0) cx dX9_readOrder_140 (by decide) ?_
          refine g_sipush (v := 255) cx dX9_readOrder_141 (by decide) ?_
          refine w_calli (r0 := bI (mO tx z (mS tx z (mS tx z (mS tx z (mS tx z p)))) 0 255)) (ws' := wMo V ad nw (upd (upd (upd (upd (upd rw (71 + (5 * (qo rw))) (mK tx z p.1)) ((71 + (5 * (qo rw))) + 1) (mK tx z (mS tx z p).1)) ((71 + (5 * (qo rw))) + 2) (-9)) ((71 + (5 * (qo rw))) + 2) (mV tx z (mS tx z (mS tx z p)).1 (mS tx z (mS tx z p)).2)) ((71 + (5 * (qo rw))) + 3) (mV tx z (mS tx z (mS tx z (mS tx z p))).1 (mS tx z (mS tx z (mS tx z p))).2)) ps im kp tx sw sv da co pl me fa ao al de (nI z) (nI (tX tx z (mS tx z (mS tx z (mS tx z (mS tx z p)))).1)) (nI (tP tx z (mS tx z (mS tx z (mS tx z (mS tx z p)))).1)) (mK tx z (mS tx z (mS tx z (mS tx z (mS tx z p)))).1) (mV tx z (mS tx z (mS tx z (mS tx z (mS tx z p)))).1 (mS tx z (mS tx z (mS tx z (mS tx z p)))).2) se il) (As := [.int 0, .int 255]) (rest := []) cx (c_X9_scanNumber V ad nw (upd (upd (upd (upd (upd rw (71 + (5 * (qo rw))) (mK tx z p.1)) ((71 + (5 * (qo rw))) + 1) (mK tx z (mS tx z p).1)) ((71 + (5 * (qo rw))) + 2) (-9)) ((71 + (5 * (qo rw))) + 2) (mV tx z (mS tx z (mS tx z p)).1 (mS tx z (mS tx z p)).2)) ((71 + (5 * (qo rw))) + 3) (mV tx z (mS tx z (mS tx z (mS tx z p))).1 (mS tx z (mS tx z (mS tx z p))).2)) ps im kp tx sw sv da co pl me fa ao al de se il 0 255 z (mS tx z (mS tx z (mS tx z p))) hz (mS_le (mS_le (mS_le (hp))))) ml_X9_90 dX9_readOrder_144 (q0 := 0) rfl rfl rfl rfl rfl (Nat.le_of_ble_eq_true rfl) ⟨Nat.le_of_ble_eq_true rfl, Nat.le_of_ble_eq_true rfl⟩ ⟨Nat.le_refl _, Nat.le_refl _⟩ ?_
          refine g_if_ne_b cx 152 dX9_readOrder_147 (by decide) (fun hw5 => ?_) (fun hw5 => ?_)
          · skip
            refine g_aload_n (v := ad 0) cx dX9_readOrder_152 rfl ?_
            refine g_get (v := .ref (ad 2)) cx fk_X9_13 dX9_readOrder_153 0 rfl rfl ?_
            refine g_iload_n (v := 71 + (5 * (rw 3))) cx dX9_readOrder_156 rfl ?_
            refine g_iconst (v := 4) cx dX9_readOrder_157 (by decide) ?_
            refine g_iadd cx dX9_readOrder_158 ?_
            refine g_aload_n (v := ad 0) cx dX9_readOrder_159 rfl ?_
            refine g_get (v := .int (mV tx z (mS tx z (mS tx z (mS tx z (mS tx z p)))).1 (mS tx z (mS tx z (mS tx z (mS tx z p)))).2)) cx fk_X9_80 dX9_readOrder_160 0 rfl rfl ?_
            refine g_iast (ws' := wMo V ad nw (upd (upd (upd (upd (upd (upd rw (71 + (5 * (qo rw))) (mK tx z p.1)) ((71 + (5 * (qo rw))) + 1) (mK tx z (mS tx z p).1)) ((71 + (5 * (qo rw))) + 2) (-9)) ((71 + (5 * (qo rw))) + 2) (mV tx z (mS tx z (mS tx z p)).1 (mS tx z (mS tx z p)).2)) ((71 + (5 * (qo rw))) + 3) (mV tx z (mS tx z (mS tx z (mS tx z p))).1 (mS tx z (mS tx z (mS tx z p))).2)) ((71 + (5 * (qo rw))) + 4) (mV tx z (mS tx z (mS tx z (mS tx z (mS tx z p)))).1 (mS tx z (mS tx z (mS tx z (mS tx z p)))).2)) ps im kp tx sw sv da co pl me fa ao al de (nI z) (nI (tX tx z (mS tx z (mS tx z (mS tx z (mS tx z p)))).1)) (nI (tP tx z (mS tx z (mS tx z (mS tx z (mS tx z p)))).1)) (mK tx z (mS tx z (mS tx z (mS tx z (mS tx z p)))).1) (mV tx z (mS tx z (mS tx z (mS tx z (mS tx z p)))).1 (mS tx z (mS tx z (mS tx z (mS tx z p)))).2) se il) cx dX9_readOrder_163 2 ((71 + (5 * (qo rw))) + 4) rfl (rf_add (rf_add (nl 71) (rf_mul (nl 5) ho)) (nl 4)) (by omega) (by first | decide | omega) rfl ?_
            refine g_aload_n (v := ad 0) cx dX9_readOrder_164 rfl ?_
            refine g_get (v := .ref (ad 2)) cx fk_X9_13 dX9_readOrder_165 0 rfl rfl ?_
            refine g_iconst (v := 3) cx dX9_readOrder_168 (by decide) ?_
            refine g_dup2 cx dX9_readOrder_169 rfl rfl ?_
            refine g_iald cx dX9_readOrder_170 2 3 rfl (nl 3) (by omega) (by first | decide | omega) ?_
            refine g_top (y := (upd (upd (upd (upd (upd (upd rw (71 + (5 * (qo rw))) (mK tx z p.1)) ((71 + (5 * (qo rw))) + 1) (mK tx z (mS tx z p).1)) ((71 + (5 * (qo rw))) + 2) (-9)) ((71 + (5 * (qo rw))) + 2) (mV tx z (mS tx z (mS tx z p)).1 (mS tx z (mS tx z p)).2)) ((71 + (5 * (qo rw))) + 3) (mV tx z (mS tx z (mS tx z (mS tx z p))).1 (mS tx z (mS tx z (mS tx z p))).2)) ((71 + (5 * (qo rw))) + 4) (mV tx z (mS tx z (mS tx z (mS tx z (mS tx z p)))).1 (mS tx z (mS tx z (mS tx z (mS tx z p)))).2)) 3) (rfl) ?_
            refine g_iconst (v := 1) cx dX9_readOrder_171 (by decide) ?_
            refine g_iadd cx dX9_readOrder_172 ?_
            refine g_iast (ws' := wMo V ad nw (upd (upd (upd (upd (upd (upd (upd rw (71 + (5 * (qo rw))) (mK tx z p.1)) ((71 + (5 * (qo rw))) + 1) (mK tx z (mS tx z p).1)) ((71 + (5 * (qo rw))) + 2) (-9)) ((71 + (5 * (qo rw))) + 2) (mV tx z (mS tx z (mS tx z p)).1 (mS tx z (mS tx z p)).2)) ((71 + (5 * (qo rw))) + 3) (mV tx z (mS tx z (mS tx z (mS tx z p))).1 (mS tx z (mS tx z (mS tx z p))).2)) ((71 + (5 * (qo rw))) + 4) (mV tx z (mS tx z (mS tx z (mS tx z (mS tx z p)))).1 (mS tx z (mS tx z (mS tx z (mS tx z p)))).2)) 3 (((upd (upd (upd (upd (upd (upd rw (71 + (5 * (qo rw))) (mK tx z p.1)) ((71 + (5 * (qo rw))) + 1) (mK tx z (mS tx z p).1)) ((71 + (5 * (qo rw))) + 2) (-9)) ((71 + (5 * (qo rw))) + 2) (mV tx z (mS tx z (mS tx z p)).1 (mS tx z (mS tx z p)).2)) ((71 + (5 * (qo rw))) + 3) (mV tx z (mS tx z (mS tx z (mS tx z p))).1 (mS tx z (mS tx z (mS tx z p))).2)) ((71 + (5 * (qo rw))) + 4) (mV tx z (mS tx z (mS tx z (mS tx z (mS tx z p)))).1 (mS tx z (mS tx z (mS tx z (mS tx z p)))).2)) 3) + 1)) ps im kp tx sw sv da co pl me fa ao al de (nI z) (nI (tX tx z (mS tx z (mS tx z (mS tx z (mS tx z p)))).1)) (nI (tP tx z (mS tx z (mS tx z (mS tx z (mS tx z p)))).1)) (mK tx z (mS tx z (mS tx z (mS tx z (mS tx z p)))).1) (mV tx z (mS tx z (mS tx z (mS tx z (mS tx z p)))).1 (mS tx z (mS tx z (mS tx z (mS tx z p)))).2) se il) cx dX9_readOrder_173 2 3 rfl (nl 3) (by omega) (by first | decide | omega) rfl ?_
            refine g_aload_n (v := ad 0) cx dX9_readOrder_174 rfl ?_
            refine w_calli (r0 := bI (mK tx z (mS tx z (mS tx z (mS tx z (mS tx z (mS tx z p))))).1 = 59)) (ws' := wMo V ad nw (upd (upd (upd (upd (upd (upd (upd rw (71 + (5 * (qo rw))) (mK tx z p.1)) ((71 + (5 * (qo rw))) + 1) (mK tx z (mS tx z p).1)) ((71 + (5 * (qo rw))) + 2) (-9)) ((71 + (5 * (qo rw))) + 2) (mV tx z (mS tx z (mS tx z p)).1 (mS tx z (mS tx z p)).2)) ((71 + (5 * (qo rw))) + 3) (mV tx z (mS tx z (mS tx z (mS tx z p))).1 (mS tx z (mS tx z (mS tx z p))).2)) ((71 + (5 * (qo rw))) + 4) (mV tx z (mS tx z (mS tx z (mS tx z (mS tx z p)))).1 (mS tx z (mS tx z (mS tx z (mS tx z p)))).2)) 3 (((upd (upd (upd (upd (upd (upd rw (71 + (5 * (qo rw))) (mK tx z p.1)) ((71 + (5 * (qo rw))) + 1) (mK tx z (mS tx z p).1)) ((71 + (5 * (qo rw))) + 2) (-9)) ((71 + (5 * (qo rw))) + 2) (mV tx z (mS tx z (mS tx z p)).1 (mS tx z (mS tx z p)).2)) ((71 + (5 * (qo rw))) + 3) (mV tx z (mS tx z (mS tx z (mS tx z p))).1 (mS tx z (mS tx z (mS tx z p))).2)) ((71 + (5 * (qo rw))) + 4) (mV tx z (mS tx z (mS tx z (mS tx z (mS tx z p)))).1 (mS tx z (mS tx z (mS tx z (mS tx z p)))).2)) 3) + 1)) ps im kp tx sw sv da co pl me fa ao al de (nI z) (nI (tX tx z (mS tx z (mS tx z (mS tx z (mS tx z (mS tx z p))))).1)) (nI (tP tx z (mS tx z (mS tx z (mS tx z (mS tx z (mS tx z p))))).1)) (mK tx z (mS tx z (mS tx z (mS tx z (mS tx z (mS tx z p))))).1) (mV tx z (mS tx z (mS tx z (mS tx z (mS tx z (mS tx z p))))).1 (mS tx z (mS tx z (mS tx z (mS tx z (mS tx z p))))).2) se il) (As := []) (rest := []) cx (c_X9_scanEnd V ad nw (upd (upd (upd (upd (upd (upd (upd rw (71 + (5 * (qo rw))) (mK tx z p.1)) ((71 + (5 * (qo rw))) + 1) (mK tx z (mS tx z p).1)) ((71 + (5 * (qo rw))) + 2) (-9)) ((71 + (5 * (qo rw))) + 2) (mV tx z (mS tx z (mS tx z p)).1 (mS tx z (mS tx z p)).2)) ((71 + (5 * (qo rw))) + 3) (mV tx z (mS tx z (mS tx z (mS tx z p))).1 (mS tx z (mS tx z (mS tx z p))).2)) ((71 + (5 * (qo rw))) + 4) (mV tx z (mS tx z (mS tx z (mS tx z (mS tx z p)))).1 (mS tx z (mS tx z (mS tx z (mS tx z p)))).2)) 3 (((upd (upd (upd (upd (upd (upd rw (71 + (5 * (qo rw))) (mK tx z p.1)) ((71 + (5 * (qo rw))) + 1) (mK tx z (mS tx z p).1)) ((71 + (5 * (qo rw))) + 2) (-9)) ((71 + (5 * (qo rw))) + 2) (mV tx z (mS tx z (mS tx z p)).1 (mS tx z (mS tx z p)).2)) ((71 + (5 * (qo rw))) + 3) (mV tx z (mS tx z (mS tx z (mS tx z p))).1 (mS tx z (mS tx z (mS tx z p))).2)) ((71 + (5 * (qo rw))) + 4) (mV tx z (mS tx z (mS tx z (mS tx z (mS tx z p)))).1 (mS tx z (mS tx z (mS tx z (mS tx z p)))).2)) 3) + 1)) ps im kp tx sw sv da co pl me fa ao al de se il z (mS tx z (mS tx z (mS tx z (mS tx z p)))) hz (mS_le (mS_le (mS_le (mS_le (hp)))))) ml_X9_94 dX9_readOrder_175 (q0 := 0) rfl rfl rfl rfl rfl (Nat.le_of_ble_eq_true rfl) ⟨Nat.le_of_ble_eq_true rfl, Nat.le_of_ble_eq_true rfl⟩ ⟨Nat.le_refl _, Nat.le_refl _⟩ ?_
            exact hret _ _ _ _ dX9_readOrder_178 (by first | rfl | exact rf_bnar) (⟨by rw [mqOrder, if_neg hw1, mqO1, if_pos hw2, mqO2, if_neg (not_not_intro hw3), mqO3, if_neg (not_not_intro hw4), if_neg (not_not_intro hw5)]; simp only [decide_eq_true_eq], by rw [mqOrder, if_neg hw1, mqO1, if_pos hw2, mqO2, if_neg (not_not_intro hw3), mqO3, if_neg (not_not_intro hw4), if_neg (not_not_intro hw5)]⟩)
          · skip
            refine g_iconst (v := 0) cx dX9_readOrder_150 (by decide) ?_
            exact hret _ _ _ _ dX9_readOrder_151 (by first | rfl | exact rf_bnar) (⟨by rw [mqOrder, if_neg hw1, mqO1, if_pos hw2, mqO2, if_neg (not_not_intro hw3), mqO3, if_neg (not_not_intro hw4), if_pos hw5]; rfl, by rw [mqOrder, if_neg hw1, mqO1, if_pos hw2, mqO2, if_neg (not_not_intro hw3), mqO3, if_neg (not_not_intro hw4), if_pos hw5]⟩)
        · skip
          refine g_iconst (v := 0) cx dX9_readOrder_125 (by decide) ?_
          exact hret _ _ _ _ dX9_readOrder_126 (by first | rfl | exact rf_bnar) (⟨by rw [mqOrder, if_neg hw1, mqO1, if_pos hw2, mqO2, if_neg (not_not_intro hw3), mqO3, if_pos hw4]; rfl, by rw [mqOrder, if_neg hw1, mqO1, if_pos hw2, mqO2, if_neg (not_not_intro hw3), mqO3, if_pos hw4]⟩)
      · skip
        refine g_iconst (v := 0) cx dX9_readOrder_88 (by decide) ?_
        exact hret _ _ _ _ dX9_readOrder_89 (by first | rfl | exact rf_bnar) (⟨by rw [mqOrder, if_neg hw1, mqO1, if_pos hw2, mqO2, if_pos hw3]; rfl, by rw [mqOrder, if_neg hw1, mqO1, if_pos hw2, mqO2, if_pos hw3]⟩)
    · skip
      refine g_aload_n (v := ad 0) cx dX9_readOrder_69 rfl ?_
      refine g_get (v := .int (mK tx z (mS tx z p).1)) cx fk_X9_73 dX9_readOrder_70 0 rfl rfl ?_
      refine g_bipush (v := 115) cx dX9_readOrder_73 (by decide) ?_
      refine g_icmp_ne cx 105 dX9_readOrder_75 (by decide) (fun hw6 => ?_) (fun hw6 => ?_)
      · skip
        refine g_aload_n (v := ad 0) cx dX9_readOrder_105 rfl ?_
        refine g_get (v := .int (mK tx z (mS tx z p).1)) cx fk_X9_73 dX9_readOrder_106 0 rfl rfl ?_
        refine g_bipush (v := 98) cx dX9_readOrder_109 (by decide) ?_
        refine g_icmp_eq cx 116 dX9_readOrder_111 (by decide) (fun hw7 => ?_) (fun hw7 => ?_)
        · skip
          refine g_aload_n (v := ad 0) cx dX9_readOrder_116 rfl ?_
          refine g_iconst (v := 0) cx dX9_readOrder_117 (by decide) ?_
          refine g_iconst (v := 3) cx dX9_readOrder_118 (by decide) ?_
          refine w_calli (r0 := bI (mO tx z (mS tx z (mS tx z p)) 0 3)) (ws' := wMo V ad nw (upd (upd (upd rw (71 + (5 * (qo rw))) (mK tx z p.1)) ((71 + (5 * (qo rw))) + 1) (mK tx z (mS tx z p).1)) ((71 + (5 * (qo rw))) + 2) (-9)) ps im kp tx sw sv da co pl me fa ao al de (nI z) (nI (tX tx z (mS tx z (mS tx z p)).1)) (nI (tP tx z (mS tx z (mS tx z p)).1)) (mK tx z (mS tx z (mS tx z p)).1) (mV tx z (mS tx z (mS tx z p)).1 (mS tx z (mS tx z p)).2) se il) (As := [.int 0, .int 3]) (rest := []) cx (c_X9_scanNumber V ad nw (upd (upd (upd rw (71 + (5 * (qo rw))) (mK tx z p.1)) ((71 + (5 * (qo rw))) + 1) (mK tx z (mS tx z p).1)) ((71 + (5 * (qo rw))) + 2) (-9)) ps im kp tx sw sv da co pl me fa ao al de se il 0 3 z (mS tx z p) hz (mS_le (hp))) ml_X9_90 dX9_readOrder_119 (q0 := 0) rfl rfl rfl rfl rfl (Nat.le_of_ble_eq_true rfl) ⟨Nat.le_of_ble_eq_true rfl, Nat.le_of_ble_eq_true rfl⟩ ⟨Nat.le_refl _, Nat.le_refl _⟩ ?_
          refine g_if_ne_b cx 127 dX9_readOrder_122 (by decide) (fun hw8 => ?_) (fun hw8 => ?_)
          · skip
            refine g_aload_n (v := ad 0) cx dX9_readOrder_127 rfl ?_
            refine g_get (v := .ref (ad 2)) cx fk_X9_13 dX9_readOrder_128 0 rfl rfl ?_
            refine g_iload_n (v := 71 + (5 * (rw 3))) cx dX9_readOrder_131 rfl ?_
            refine g_iconst (v := 3) cx dX9_readOrder_132 (by decide) ?_
            refine g_iadd cx dX9_readOrder_133 ?_
            refine g_aload_n (v := ad 0) cx dX9_readOrder_134 rfl ?_
            refine g_get (v := .int (mV tx z (mS tx z (mS tx z p)).1 (mS tx z (mS tx z p)).2)) cx fk_X9_80 dX9_readOrder_135 0 rfl rfl ?_
            refine g_iast (ws' := wMo V ad nw (upd (upd (upd (upd rw (71 + (5 * (qo rw))) (mK tx z p.1)) ((71 + (5 * (qo rw))) + 1) (mK tx z (mS tx z p).1)) ((71 + (5 * (qo rw))) + 2) (-9)) ((71 + (5 * (qo rw))) + 3) (mV tx z (mS tx z (mS tx z p)).1 (mS tx z (mS tx z p)).2)) ps im kp tx sw sv da co pl me fa ao al de (nI z) (nI (tX tx z (mS tx z (mS tx z p)).1)) (nI (tP tx z (mS tx z (mS tx z p)).1)) (mK tx z (mS tx z (mS tx z p)).1) (mV tx z (mS tx z (mS tx z p)).1 (mS tx z (mS tx z p)).2) se il) cx dX9_readOrder_138 2 ((71 + (5 * (qo rw))) + 3) rfl (rf_add (rf_add (nl 71) (rf_mul (nl 5) ho)) (nl 3)) (by omega) (by first | decide | omega) rfl ?_
            refine g_aload_n (v := ad 0) cx dX9_readOrder_139 rfl ?_
            refine g_iconst (v := 0) cx dX9_readOrder_140 (by decide) ?_
            refine g_sipush (v := 255) cx dX9_readOrder_141 (by decide) ?_
            refine w_calli (r0 := bI (mO tx z (mS tx z (mS tx z (mS tx z p))) 0 255)) (ws' := wMo V ad nw (upd (upd (upd (upd rw (71 + (5 * (qo rw))) (mK tx z p.1)) ((71 + (5 * (qo rw))) + 1) (mK tx z (mS tx z p).1)) ((71 + (5 * (qo rw))) + 2) (-9)) ((71 + (5 * (qo rw))) + 3) (mV tx z (mS tx z (mS tx z p)).1 (mS tx z (mS tx z p)).2)) ps im kp tx sw sv da co pl me fa ao al de (nI z) (nI (tX tx z (mS tx z (mS tx z (mS tx z p))).1)) (nI (tP tx z (mS tx z (mS tx z (mS tx z p))).1)) (mK tx z (mS tx z (mS tx z (mS tx z p))).1) (mV tx z (mS tx z (mS tx z (mS tx z p))).1 (mS tx z (mS tx z (mS tx z p))).2) se il) (As := [.int 0, .int 255]) (rest := []) cx (c_X9_scanNumber V ad nw (upd (upd (upd (upd rw (71 + (5 * (qo rw))) (mK tx z p.1)) ((71 + (5 * (qo rw))) + 1) (mK tx z (mS tx z p).1)) ((71 + (5 * (qo rw))) + 2) (-9)) ((71 + (5 * (qo rw))) + 3) (mV tx z (mS tx z (mS tx z p)).1 (mS tx z (mS tx z p)).2)) ps im kp tx sw sv da co pl me fa ao al de se il 0 255 z (mS tx z (mS tx z p)) hz (mS_le (mS_le (hp)))) ml_X9_90 dX9_readOrder_144 (q0 := 0) rfl rfl rfl rfl rfl (Nat.le_of_ble_eq_true rfl) ⟨Nat.le_of_ble_eq_true rfl, Nat.le_of_ble_eq_true rfl⟩ ⟨Nat.le_refl _, Nat.le_refl _⟩ ?_
            refine g_if_ne_b cx 152 dX9_readOrder_147 (by decide) (fun hw9 => ?_) (fun hw9 => ?_)
            · skip
              refine g_aload_n (v := ad 0) cx dX9_readOrder_152 rfl ?_
              refine g_get (v := .ref (ad 2)) cx fk_X9_13 dX9_readOrder_153 0 rfl rfl ?_
              refine g_iload_n (v := 71 + (5 * (rw 3))) cx dX9_readOrder_156 rfl ?_
              refine g_iconst (v := 4) cx dX9_readOrder_157 (by decide) ?_
              refine g_iadd cx dX9_readOrder_158 ?_
              refine g_aload_n (v := ad 0) cx dX9_readOrder_159 rfl ?_
              refine g_get (v := .int (mV tx z (mS tx z (mS tx z (mS tx z p))).1 (mS tx z (mS tx z (mS tx z p))).2)) cx fk_X9_80 dX9_readOrder_160 0 rfl rfl ?_
              refine g_iast (ws' := wMo V ad nw (upd (upd (upd (upd (upd rw (71 + (5 * (qo rw))) (mK tx z p.1)) ((71 + (5 * (qo rw))) + 1) (mK tx z (mS tx z p).1)) ((71 + (5 * (qo rw))) + 2) (-9)) ((71 + (5 * (qo rw))) + 3) (mV tx z (mS tx z (mS tx z p)).1 (mS tx z (mS tx z p)).2)) ((71 + (5 * (qo rw))) + 4) (mV tx z (mS tx z (mS tx z (mS tx z p))).1 (mS tx z (mS tx z (mS tx z p))).2)) ps im kp tx sw sv da co pl me fa ao al de (nI z) (nI (tX tx z (mS tx z (mS tx z (mS tx z p))).1)) (nI (tP tx z (mS tx z (mS tx z (mS tx z p))).1)) (mK tx z (mS tx z (mS tx z (mS tx z p))).1) (mV tx z (mS tx z (mS tx z (mS tx z p))).1 (mS tx z (mS tx z (mS tx z p))).2) se il) cx dX9_readOrder_163 2 ((71 + (5 * (qo rw))) + 4) rfl (rf_add (rf_add (nl 71) (rf_mul (nl 5) ho)) (nl 4)) (by omega) (by first | decide | omega) rfl ?_
              refine g_aload_n (v := ad 0) cx dX9_readOrder_164 rfl ?_
              refine g_get (v := .ref (ad 2)) cx fk_X9_13 dX9_readOrder_165 0 rfl rfl ?_
              refine g_iconst (v := 3) cx dX9_readOrder_168 (by decide) ?_
              refine g_dup2 cx dX9_readOrder_169 rfl rfl ?_
              refine g_iald cx dX9_readOrder_170 2 3 rfl (nl 3) (by omega) (by first | decide | omega) ?_
              refine g_top (y := (upd (upd (upd (upd (upd rw (71 + (5 * (qo rw))) (mK tx z p.1)) ((71 + (5 * (qo rw))) + 1) (mK tx z (mS tx z p).1)) ((71 + (5 * (qo rw))) + 2) (-9)) ((71 + (5 * (qo rw))) + 3) (mV tx z (mS tx z (mS tx z p)).1 (mS tx z (mS tx z p)).2)) ((71 + (5 * (qo rw))) + 4) (mV tx z (mS tx z (mS tx z (mS tx z p))).1 (mS tx z (mS tx z (mS tx z p))).2)) 3) (rfl) ?_
              refine g_iconst (v := 1) cx dX9_readOrder_171 (by decide) ?_
              refine g_iadd cx dX9_readOrder_172 ?_
              refine g_iast (ws' := wMo V ad nw (upd (upd (upd (upd (upd (upd rw (71 + (5 * (qo rw))) (mK tx z p.1)) ((71 + (5 * (qo rw))) + 1) (mK tx z (mS tx z p).1)) ((71 + (5 * (qo rw))) + 2) (-9)) ((71 + (5 * (qo rw))) + 3) (mV tx z (mS tx z (mS tx z p)).1 (mS tx z (mS tx z p)).2)) ((71 + (5 * (qo rw))) + 4) (mV tx z (mS tx z (mS tx z (mS tx z p))).1 (mS tx z (mS tx z (mS tx z p))).2)) 3 (((upd (upd (upd (upd (upd rw (71 + (5 * (qo rw))) (mK tx z p.1)) ((71 + (5 * (qo rw))) + 1) (mK tx z (mS tx z p).1)) ((71 + (5 * (qo rw))) + 2) (-9)) ((71 + (5 * (qo rw))) + 3) (mV tx z (mS tx z (mS tx z p)).1 (mS tx z (mS tx z p)).2)) ((71 + (5 * (qo rw))) + 4) (mV tx z (mS tx z (mS tx z (mS tx z p))).1 (mS tx z (mS tx z (mS tx z p))).2)) 3) + 1)) ps im kp tx sw sv da co pl me fa ao al de (nI z) (nI (tX tx z (mS tx z (mS tx z (mS tx z p))).1)) (nI (tP tx z (mS tx z (mS tx z (mS tx z p))).1)) (mK tx z (mS tx z (mS tx z (mS tx z p))).1) (mV tx z (mS tx z (mS tx z (mS tx z p))).1 (mS tx z (mS tx z (mS tx z p))).2) se il) cx dX9_readOrder_173 2 3 rfl (nl 3) (by omega) (by first | decide | omega) rfl ?_
              refine g_aload_n (v := ad 0) cx dX9_readOrder_174 rfl ?_
              refine w_calli (r0 := bI (mK tx z (mS tx z (mS tx z (mS tx z (mS tx z p)))).1 = 59)) (ws' := wMo V ad nw (upd (upd (upd (upd (upd (upd rw (71 + (5 * (qo rw))) (mK tx z p.1)) ((71 + (5 * (qo rw))) + 1) (mK tx z (mS tx z p).1)) ((71 + (5 * (qo rw))) + 2) (-9)) ((71 + (5 * (qo rw))) + 3) (mV tx z (mS tx z (mS tx z p)).1 (mS tx z (mS tx z p)).2)) ((71 + (5 * (qo rw))) + 4) (mV tx z (mS tx z (mS tx z (mS tx z p))).1 (mS tx z (mS tx z (mS tx z p))).2)) 3 (((upd (upd (upd (upd (upd rw (71 + (5 * (qo rw))) (mK tx z p.1)) ((71 + (5 * (qo rw))) + 1) (mK tx z (mS tx z p).1)) ((71 + (5 * (qo rw))) + 2) (-9)) ((71 + (5 * (qo rw))) + 3) (mV tx z (mS tx z (mS tx z p)).1 (mS tx z (mS tx z p)).2)) ((71 + (5 * (qo rw))) + 4) (mV tx z (mS tx z (mS tx z (mS tx z p))).1 (mS tx z (mS tx z (mS tx z p))).2)) 3) + 1)) ps im kp tx sw sv da co pl me fa ao al de (nI z) (nI (tX tx z (mS tx z (mS tx z (mS tx z (mS tx z p)))).1)) (nI (tP tx z (mS tx z (mS tx z (mS tx z (mS tx z p)))).1)) (mK tx z (mS tx z (mS tx z (mS tx z (mS tx z p)))).1) (mV tx z (mS tx z (mS tx z (mS tx z (mS tx z p)))).1 (mS tx z (mS tx z (mS tx z (mS tx z p)))).2) se il) (As := []) (rest := []) cx (c_X9_scanEnd V ad nw (upd (upd (upd (upd (upd (upd rw (71 + (5 * (qo rw))) (mK tx z p.1)) ((71 + (5 * (qo rw))) + 1) (mK tx z (mS tx z p).1)) ((71 + (5 * (qo rw))) + 2) (-9)) ((71 + (5 * (qo rw))) + 3) (mV tx z (mS tx z (mS tx z p)).1 (mS tx z (mS tx z p)).2)) ((71 + (5 * (qo rw))) + 4) (mV tx z (mS tx z (mS tx z (mS tx z p))).1 (mS tx z (mS tx z (mS tx z p))).2)) 3 (((upd (upd (upd (upd (upd rw (71 + (5 * (qo rw))) (mK tx z p.1)) ((71 + (5 * (qo rw))) + 1) (mK tx z (mS tx z p).1)) ((71 + (5 * (qo rw))) + 2) (-9)) ((71 + (5 * (qo rw))) + 3) (mV tx z (mS tx z (mS tx z p)).1 (mS tx z (mS tx z p)).2)) ((71 + (5 * (qo rw))) + 4) (mV tx z (mS tx z (mS tx z (mS tx z p))).1 (mS tx z (mS tx z (mS tx z p))).2)) 3) + 1)) ps im kp tx sw sv da co pl me fa ao al de se il z (mS tx z (mS tx z (mS tx z p))) hz (mS_le (mS_le (mS_le (hp))))) ml_X9_94 dX9_readOrder_175 (q0 := 0) rfl rfl rfl rfl rfl (Nat.le_of_ble_eq_true rfl) ⟨Nat.le_of_ble_eq_true rfl, Nat.le_of_ble_eq_true rfl⟩ ⟨Nat.le_refl _, Nat.le_refl _⟩ ?_
              exact hret _ _ _ _ dX9_readOrder_178 (by first | rfl | exact rf_bnar) (⟨by rw [mqOrder, if_neg hw1, mqO1, if_neg hw2, if_neg hw6, if_pos hw7, mqO3, if_neg (not_not_intro hw8), if_neg (not_not_intro hw9)]; simp only [decide_eq_true_eq], by rw [mqOrder, if_neg hw1, mqO1, if_neg hw2, if_neg hw6, if_pos hw7, mqO3, if_neg (not_not_intro hw8), if_neg (not_not_intro hw9)]⟩)
            · skip
              refine g_iconst (v := 0) cx dX9_readOrder_150 (by decide) ?_
              exact hret _ _ _ _ dX9_readOrder_151 (by first | rfl | exact rf_bnar) (⟨by rw [mqOrder, if_neg hw1, mqO1, if_neg hw2, if_neg hw6, if_pos hw7, mqO3, if_neg (not_not_intro hw8), if_pos hw9]; rfl, by rw [mqOrder, if_neg hw1, mqO1, if_neg hw2, if_neg hw6, if_pos hw7, mqO3, if_neg (not_not_intro hw8), if_pos hw9]⟩)
          · skip
            refine g_iconst (v := 0) cx dX9_readOrder_125 (by decide) ?_
            exact hret _ _ _ _ dX9_readOrder_126 (by first | rfl | exact rf_bnar) (⟨by rw [mqOrder, if_neg hw1, mqO1, if_neg hw2, if_neg hw6, if_pos hw7, mqO3, if_pos hw8]; rfl, by rw [mqOrder, if_neg hw1, mqO1, if_neg hw2, if_neg hw6, if_pos hw7, mqO3, if_pos hw8]⟩)
        · skip
          refine g_iconst (v := 0) cx dX9_readOrder_114 (by decide) ?_
          exact hret _ _ _ _ dX9_readOrder_115 (by first | rfl | exact rf_bnar) (⟨by rw [mqOrder, if_neg hw1, mqO1, if_neg hw2, if_neg hw6, if_neg hw7]; rfl, by rw [mqOrder, if_neg hw1, mqO1, if_neg hw2, if_neg hw6, if_neg hw7]⟩)
      · skip
        refine g_aload_n (v := ad 0) cx dX9_readOrder_78 rfl ?_
        refine g_iconst (v := 0) cx dX9_readOrder_79 (by decide) ?_
        refine g_bipush (v := 15) cx dX9_readOrder_80 (by decide) ?_
        refine w_calli (r0 := bI (mO tx z (mS tx z (mS tx z p)) 0 15)) (ws' := wMo V ad nw (upd (upd (upd rw (71 + (5 * (qo rw))) (mK tx z p.1)) ((71 + (5 * (qo rw))) + 1) (mK tx z (mS tx z p).1)) ((71 + (5 * (qo rw))) + 2) (-9)) ps im kp tx sw sv da co pl me fa ao al de (nI z) (nI (tX tx z (mS tx z (mS tx z p)).1)) (nI (tP tx z (mS tx z (mS tx z p)).1)) (mK tx z (mS tx z (mS tx z p)).1) (mV tx z (mS tx z (mS tx z p)).1 (mS tx z (mS tx z p)).2) se il) (As := [.int 0, .int 15]) (rest := []) cx (c_X9_scanNumber V ad nw (upd (upd (upd rw (71 + (5 * (qo rw))) (mK tx z p.1)) ((71 + (5 * (qo rw))) + 1) (mK tx z (mS tx z p).1)) ((71 + (5 * (qo rw))) + 2) (-9)) ps im kp tx sw sv da co pl me fa ao al de se il 0 15 z (mS tx z p) hz (mS_le (hp))) ml_X9_90 dX9_readOrder_82 (q0 := 0) rfl rfl rfl rfl rfl (Nat.le_of_ble_eq_true rfl) ⟨Nat.le_of_ble_eq_true rfl, Nat.le_of_ble_eq_true rfl⟩ ⟨Nat.le_refl _, Nat.le_refl _⟩ ?_
        refine g_if_ne_b cx 90 dX9_readOrder_85 (by decide) (fun hw10 => ?_) (fun hw10 => ?_)
        · skip
          refine g_aload_n (v := ad 0) cx dX9_readOrder_90 rfl ?_
          refine g_get (v := .ref (ad 2)) cx fk_X9_13 dX9_readOrder_91 0 rfl rfl ?_
          refine g_iload_n (v := 71 + (5 * (rw 3))) cx dX9_readOrder_94 rfl ?_
          refine g_iconst (v := 2) cx dX9_readOrder_95 (by decide) ?_
          refine g_iadd cx dX9_readOrder_96 ?_
          refine g_aload_n (v := ad 0) cx dX9_readOrder_97 rfl ?_
          refine g_get (v := .int (mV tx z (mS tx z (mS tx z p)).1 (mS tx z (mS tx z p)).2)) cx fk_X9_80 dX9_readOrder_98 0 rfl rfl ?_
          refine g_iast (ws' := wMo V ad nw (upd (upd (upd (upd rw (71 + (5 * (qo rw))) (mK tx z p.1)) ((71 + (5 * (qo rw))) + 1) (mK tx z (mS tx z p).1)) ((71 + (5 * (qo rw))) + 2) (-9)) ((71 + (5 * (qo rw))) + 2) (mV tx z (mS tx z (mS tx z p)).1 (mS tx z (mS tx z p)).2)) ps im kp tx sw sv da co pl me fa ao al de (nI z) (nI (tX tx z (mS tx z (mS tx z p)).1)) (nI (tP tx z (mS tx z (mS tx z p)).1)) (mK tx z (mS tx z (mS tx z p)).1) (mV tx z (mS tx z (mS tx z p)).1 (mS tx z (mS tx z p)).2) se il) cx dX9_readOrder_101 2 ((71 + (5 * (qo rw))) + 2) rfl (rf_add (rf_add (nl 71) (rf_mul (nl 5) ho)) (nl 2)) (by omega) (by first | decide | omega) rfl ?_
          refine g_goto cx 116 dX9_readOrder_102 (by decide) ?_
          refine g_aload_n (v := ad 0) cx dX9_readOrder_116 rfl ?_
          refine g_iconst (v := 0) cx dX9_readOrder_117 (by decide) ?_
          refine g_iconst (v := 3) cx dX9_readOrder_118 (by decide) ?_
          refine w_calli (r0 := bI (mO tx z (mS tx z (mS tx z (mS tx z p))) 0 3)) (ws' := wMo V ad nw (upd (upd (upd (upd rw (71 + (5 * (qo rw))) (mK tx z p.1)) ((71 + (5 * (qo rw))) + 1) (mK tx z (mS tx z p).1)) ((71 + (5 * (qo rw))) + 2) (-9)) ((71 + (5 * (qo rw))) + 2) (mV tx z (mS tx z (mS tx z p)).1 (mS tx z (mS tx z p)).2)) ps im kp tx sw sv da co pl me fa ao al de (nI z) (nI (tX tx z (mS tx z (mS tx z (mS tx z p))).1)) (nI (tP tx z (mS tx z (mS tx z (mS tx z p))).1)) (mK tx z (mS tx z (mS tx z (mS tx z p))).1) (mV tx z (mS tx z (mS tx z (mS tx z p))).1 (mS tx z (mS tx z (mS tx z p))).2) se il) (As := [.int 0, .int 3]) (rest := []) cx (c_X9_scanNumber V ad nw (upd (upd (upd (upd rw (71 + (5 * (qo rw))) (mK tx z p.1)) ((71 + (5 * (qo rw))) + 1) (mK tx z (mS tx z p).1)) ((71 + (5 * (qo rw))) + 2) (-9)) ((71 + (5 * (qo rw))) + 2) (mV tx z (mS tx z (mS tx z p)).1 (mS tx z (mS tx z p)).2)) ps im kp tx sw sv da co pl me fa ao al de se il 0 3 z (mS tx z (mS tx z p)) hz (mS_le (mS_le (hp)))) ml_X9_90 dX9_readOrder_119 (q0 := 0) rfl rfl rfl rfl rfl (Nat.le_of_ble_eq_true rfl) ⟨Nat.le_of_ble_eq_true rfl, Nat.le_of_ble_eq_true rfl⟩ ⟨Nat.le_refl _, Nat.le_refl _⟩ ?_
          refine g_if_ne_b cx 127 dX9_readOrder_122 (by decide) (fun hw11 => ?_) (fun hw11 => ?_)
          · skip
            refine g_aload_n (v := ad 0) cx dX9_readOrder_127 rfl ?_
            refine g_get (v := .ref (ad 2)) cx fk_X9_13 dX9_readOrder_128 0 rfl rfl ?_
            refine g_iload_n (v := 71 + (5 * (rw 3))) cx dX9_readOrder_131 rfl ?_
            refine g_iconst (v := 3) cx dX9_readOrder_132 (by decide) ?_
            refine g_iadd cx dX9_readOrder_133 ?_
            refine g_aload_n (v := ad 0) cx dX9_readOrder_134 rfl ?_
            refine g_get (v := .int (mV tx z (mS tx z (mS tx z (mS tx z p))).1 (mS tx z (mS tx z (mS tx z p))).2)) cx fk_X9_80 dX9_readOrder_135 0 rfl rfl ?_
            refine g_iast (ws' := wMo V ad nw (upd (upd (upd (upd (upd rw (71 + (5 * (qo rw))) (mK tx z p.1)) ((71 + (5 * (qo rw))) + 1) (mK tx z (mS tx z p).1)) ((71 + (5 * (qo rw))) + 2) (-9)) ((71 + (5 * (qo rw))) + 2) (mV tx z (mS tx z (mS tx z p)).1 (mS tx z (mS tx z p)).2)) ((71 + (5 * (qo rw))) + 3) (mV tx z (mS tx z (mS tx z (mS tx z p))).1 (mS tx z (mS tx z (mS tx z p))).2)) ps im kp tx sw sv da co pl me fa ao al de (nI z) (nI (tX tx z (mS tx z (mS tx z (mS tx z p))).1)) (nI (tP tx z (mS tx z (mS tx z (mS tx z p))).1)) (mK tx z (mS tx z (mS tx z (mS tx z p))).1) (mV tx z (mS tx z (mS tx z (mS tx z p))).1 (mS tx z (mS tx z (mS tx z p))).2) se il) cx dX9_readOrder_138 2 ((71 + (5 * (qo rw))) + 3) rfl (rf_add (rf_add (nl 71) (rf_mul (nl 5) ho)) (nl 3)) (by omega) (by first | decide | omega) rfl ?_
            refine g_aload_n (v := ad 0) cx dX9_readOrder_139 rfl ?_
            refine g_iconst (v := 0) cx dX9_readOrder_140 (by decide) ?_
            refine g_sipush (v := 255) cx dX9_readOrder_141 (by decide) ?_
            refine w_calli (r0 := bI (mO tx z (mS tx z (mS tx z (mS tx z (mS tx z p)))) 0 255)) (ws' := wMo V ad nw (upd (upd (upd (upd (upd rw (71 + (5 * (qo rw))) (mK tx z p.1)) ((71 + (5 * (qo rw))) + 1) (mK tx z (mS tx z p).1)) ((71 + (5 * (qo rw))) + 2) (-9)) ((71 + (5 * (qo rw))) + 2) (mV tx z (mS tx z (mS tx z p)).1 (mS tx z (mS tx z p)).2)) ((71 + (5 * (qo rw))) + 3) (mV tx z (mS tx z (mS tx z (mS tx z p))).1 (mS tx z (mS tx z (mS tx z p))).2)) ps im kp tx sw sv da co pl me fa ao al de (nI z) (nI (tX tx z (mS tx z (mS tx z (mS tx z (mS tx z p)))).1)) (nI (tP tx z (mS tx z (mS tx z (mS tx z (mS tx z p)))).1)) (mK tx z (mS tx z (mS tx z (mS tx z (mS tx z p)))).1) (mV tx z (mS tx z (mS tx z (mS tx z (mS tx z p)))).1 (mS tx z (mS tx z (mS tx z (mS tx z p)))).2) se il) (As := [.int 0, .int 255]) (rest := []) cx (c_X9_scanNumber V ad nw (upd (upd (upd (upd (upd rw (71 + (5 * (qo rw))) (mK tx z p.1)) ((71 + (5 * (qo rw))) + 1) (mK tx z (mS tx z p).1)) ((71 + (5 * (qo rw))) + 2) (-9)) ((71 + (5 * (qo rw))) + 2) (mV tx z (mS tx z (mS tx z p)).1 (mS tx z (mS tx z p)).2)) ((71 + (5 * (qo rw))) + 3) (mV tx z (mS tx z (mS tx z (mS tx z p))).1 (mS tx z (mS tx z (mS tx z p))).2)) ps im kp tx sw sv da co pl me fa ao al de se il 0 255 z (mS tx z (mS tx z (mS tx z p))) hz (mS_le (mS_le (mS_le (hp))))) ml_X9_90 dX9_readOrder_144 (q0 := 0) rfl rfl rfl rfl rfl (Nat.le_of_ble_eq_true rfl) ⟨Nat.le_of_ble_eq_true rfl, Nat.le_of_ble_eq_true rfl⟩ ⟨Nat.le_refl _, Nat.le_refl _⟩ ?_
            refine g_if_ne_b cx 152 dX9_readOrder_147 (by decide) (fun hw12 => ?_) (fun hw12 => ?_)
            · skip
              refine g_aload_n (v := ad 0) cx dX9_readOrder_152 rfl ?_
              refine g_get (v := .ref (ad 2)) cx fk_X9_13 dX9_readOrder_153 0 rfl rfl ?_
              refine g_iload_n (v := 71 + (5 * (rw 3))) cx dX9_readOrder_156 rfl ?_
              refine g_iconst (v := 4) cx dX9_readOrder_157 (by decide) ?_
              refine g_iadd cx dX9_readOrder_158 ?_
              refine g_aload_n (v := ad 0) cx dX9_readOrder_159 rfl ?_
              refine g_get (v := .int (mV tx z (mS tx z (mS tx z (mS tx z (mS tx z p)))).1 (mS tx z (mS tx z (mS tx z (mS tx z p)))).2)) cx fk_X9_80 dX9_readOrder_160 0 rfl rfl ?_
              refine g_iast (ws' := wMo V ad nw (upd (upd (upd (upd (upd (upd rw (71 + (5 * (qo rw))) (mK tx z p.1)) ((71 + (5 * (qo rw))) + 1) (mK tx z (mS tx z p).1)) ((71 + (5 * (qo rw))) + 2) (-9)) ((71 + (5 * (qo rw))) + 2) (mV tx z (mS tx z (mS tx z p)).1 (mS tx z (mS tx z p)).2)) ((71 + (5 * (qo rw))) + 3) (mV tx z (mS tx z (mS tx z (mS tx z p))).1 (mS tx z (mS tx z (mS tx z p))).2)) ((71 + (5 * (qo rw))) + 4) (mV tx z (mS tx z (mS tx z (mS tx z (mS tx z p)))).1 (mS tx z (mS tx z (mS tx z (mS tx z p)))).2)) ps im kp tx sw sv da co pl me fa ao al de (nI z) (nI (tX tx z (mS tx z (mS tx z (mS tx z (mS tx z p)))).1)) (nI (tP tx z (mS tx z (mS tx z (mS tx z (mS tx z p)))).1)) (mK tx z (mS tx z (mS tx z (mS tx z (mS tx z p)))).1) (mV tx z (mS tx z (mS tx z (mS tx z (mS tx z p)))).1 (mS tx z (mS tx z (mS tx z (mS tx z p)))).2) se il) cx dX9_readOrder_163 2 ((71 + (5 * (qo rw))) + 4) rfl (rf_add (rf_add (nl 71) (rf_mul (nl 5) ho)) (nl 4)) (by omega) (by first | decide | omega) rfl ?_
              refine g_aload_n (v := ad 0) cx dX9_readOrder_164 rfl ?_
              refine g_get (v := .ref (ad 2)) cx fk_X9_13 dX9_readOrder_165 0 rfl rfl ?_
              refine g_iconst (v := 3) cx dX9_readOrder_168 (by decide) ?_
              refine g_dup2 cx dX9_readOrder_169 rfl rfl ?_
              refine g_iald cx dX9_readOrder_170 2 3 rfl (nl 3) (by omega) (by first | decide | omega) ?_
              refine g_top (y := (upd (upd (upd (upd (upd (upd rw (71 + (5 * (qo rw))) (mK tx z p.1)) ((71 + (5 * (qo rw))) + 1) (mK tx z (mS tx z p).1)) ((71 + (5 * (qo rw))) + 2) (-9)) ((71 + (5 * (qo rw))) + 2) (mV tx z (mS tx z (mS tx z p)).1 (mS tx z (mS tx z p)).2)) ((71 + (5 * (qo rw))) + 3) (mV tx z (mS tx z (mS tx z (mS tx z p))).1 (mS tx z (mS tx z (mS tx z p))).2)) ((71 + (5 * (qo rw))) + 4) (mV tx z (mS tx z (mS tx z (mS tx z (mS tx z p)))).1 (mS tx z (mS tx z (mS tx z (mS tx z p)))).2)) 3) (rfl) ?_
              refine g_iconst (v := 1) cx dX9_readOrder_171 (by decide) ?_
              refine g_iadd cx dX9_readOrder_172 ?_
              refine g_iast (ws' := wMo V ad nw (upd (upd (upd (upd (upd (upd (upd rw (71 + (5 * (qo rw))) (mK tx z p.1)) ((71 + (5 * (qo rw))) + 1) (mK tx z (mS tx z p).1)) ((71 + (5 * (qo rw))) + 2) (-9)) ((71 + (5 * (qo rw))) + 2) (mV tx z (mS tx z (mS tx z p)).1 (mS tx z (mS tx z p)).2)) ((71 + (5 * (qo rw))) + 3) (mV tx z (mS tx z (mS tx z (mS tx z p))).1 (mS tx z (mS tx z (mS tx z p))).2)) ((71 + (5 * (qo rw))) + 4) (mV tx z (mS tx z (mS tx z (mS tx z (mS tx z p)))).1 (mS tx z (mS tx z (mS tx z (mS tx z p)))).2)) 3 (((upd (upd (upd (upd (upd (upd rw (71 + (5 * (qo rw))) (mK tx z p.1)) ((71 + (5 * (qo rw))) + 1) (mK tx z (mS tx z p).1)) ((71 + (5 * (qo rw))) + 2) (-9)) ((71 + (5 * (qo rw))) + 2) (mV tx z (mS tx z (mS tx z p)).1 (mS tx z (mS tx z p)).2)) ((71 + (5 * (qo rw))) + 3) (mV tx z (mS tx z (mS tx z (mS tx z p))).1 (mS tx z (mS tx z (mS tx z p))).2)) ((71 + (5 * (qo rw))) + 4) (mV tx z (mS tx z (mS tx z (mS tx z (mS tx z p)))).1 (mS tx z (mS tx z (mS tx z (mS tx z p)))).2)) 3) + 1)) ps im kp tx sw sv da co pl me fa ao al de (nI z) (nI (tX tx z (mS tx z (mS tx z (mS tx z (mS tx z p)))).1)) (nI (tP tx z (mS tx z (mS tx z (mS tx z (mS tx z p)))).1)) (mK tx z (mS tx z (mS tx z (mS tx z (mS tx z p)))).1) (mV tx z (mS tx z (mS tx z (mS tx z (mS tx z p)))).1 (mS tx z (mS tx z (mS tx z (mS tx z p)))).2) se il) cx dX9_readOrder_173 2 3 rfl (nl 3) (by omega) (by first | decide | omega) rfl ?_
              refine g_aload_n (v := ad 0) cx dX9_readOrder_174 rfl ?_
              refine w_calli (r0 := bI (mK tx z (mS tx z (mS tx z (mS tx z (mS tx z (mS tx z p))))).1 = 59)) (ws' := wMo V ad nw (upd (upd (upd (upd (upd (upd (upd rw (71 + (5 * (qo rw))) (mK tx z p.1)) ((71 + (5 * (qo rw))) + 1) (mK tx z (mS tx z p).1)) ((71 + (5 * (qo rw))) + 2) (-9)) ((71 + (5 * (qo rw))) + 2) (mV tx z (mS tx z (mS tx z p)).1 (mS tx z (mS tx z p)).2)) ((71 + (5 * (qo rw))) + 3) (mV tx z (mS tx z (mS tx z (mS tx z p))).1 (mS tx z (mS tx z (mS tx z p))).2)) ((71 + (5 * (qo rw))) + 4) (mV tx z (mS tx z (mS tx z (mS tx z (mS tx z p)))).1 (mS tx z (mS tx z (mS tx z (mS tx z p)))).2)) 3 (((upd (upd (upd (upd (upd (upd rw (71 + (5 * (qo rw))) (mK tx z p.1)) ((71 + (5 * (qo rw))) + 1) (mK tx z (mS tx z p).1)) ((71 + (5 * (qo rw))) + 2) (-9)) ((71 + (5 * (qo rw))) + 2) (mV tx z (mS tx z (mS tx z p)).1 (mS tx z (mS tx z p)).2)) ((71 + (5 * (qo rw))) + 3) (mV tx z (mS tx z (mS tx z (mS tx z p))).1 (mS tx z (mS tx z (mS tx z p))).2)) ((71 + (5 * (qo rw))) + 4) (mV tx z (mS tx z (mS tx z (mS tx z (mS tx z p)))).1 (mS tx z (mS tx z (mS tx z (mS tx z p)))).2)) 3) + 1)) ps im kp tx sw sv da co pl me fa ao al de (nI z) (nI (tX tx z (mS tx z (mS tx z (mS tx z (mS tx z (mS tx z p))))).1)) (nI (tP tx z (mS tx z (mS tx z (mS tx z (mS tx z (mS tx z p))))).1)) (mK tx z (mS tx z (mS tx z (mS tx z (mS tx z (mS tx z p))))).1) (mV tx z (mS tx z (mS tx z (mS tx z (mS tx z (mS tx z p))))).1 (mS tx z (mS tx z (mS tx z (mS tx z (mS tx z p))))).2) se il) (As := []) (rest := []) cx (c_X9_scanEnd V ad nw (upd (upd (upd (upd (upd (upd (upd rw (71 + (5 * (qo rw))) (mK tx z p.1)) ((71 + (5 * (qo rw))) + 1) (mK tx z (mS tx z p).1)) ((71 + (5 * (qo rw))) + 2) (-9)) ((71 + (5 * (qo rw))) + 2) (mV tx z (mS tx z (mS tx z p)).1 (mS tx z (mS tx z p)).2)) ((71 + (5 * (qo rw))) + 3) (mV tx z (mS tx z (mS tx z (mS tx z p))).1 (mS tx z (mS tx z (mS tx z p))).2)) ((71 + (5 * (qo rw))) + 4) (mV tx z (mS tx z (mS tx z (mS tx z (mS tx z p)))).1 (mS tx z (mS tx z (mS tx z (mS tx z p)))).2)) 3 (((upd (upd (upd (upd (upd (upd rw (71 + (5 * (qo rw))) (mK tx z p.1)) ((71 + (5 * (qo rw))) + 1) (mK tx z (mS tx z p).1)) ((71 + (5 * (qo rw))) + 2) (-9)) ((71 + (5 * (qo rw))) + 2) (mV tx z (mS tx z (mS tx z p)).1 (mS tx z (mS tx z p)).2)) ((71 + (5 * (qo rw))) + 3) (mV tx z (mS tx z (mS tx z (mS tx z p))).1 (mS tx z (mS tx z (mS tx z p))).2)) ((71 + (5 * (qo rw))) + 4) (mV tx z (mS tx z (mS tx z (mS tx z (mS tx z p)))).1 (mS tx z (mS tx z (mS tx z (mS tx z p)))).2)) 3) + 1)) ps im kp tx sw sv da co pl me fa ao al de se il z (mS tx z (mS tx z (mS tx z (mS tx z p)))) hz (mS_le (mS_le (mS_le (mS_le (hp)))))) ml_X9_94 dX9_readOrder_175 (q0 := 0) rfl rfl rfl rfl rfl (Nat.le_of_ble_eq_true rfl) ⟨Nat.le_of_ble_eq_true rfl, Nat.le_of_ble_eq_true rfl⟩ ⟨Nat.le_refl _, Nat.le_refl _⟩ ?_
              exact hret _ _ _ _ dX9_readOrder_178 (by first | rfl | exact rf_bnar) (⟨by rw [mqOrder, if_neg hw1, mqO1, if_neg hw2, if_pos hw6, mqO2, if_neg (not_not_intro hw10), mqO3, if_neg (not_not_intro hw11), if_neg (not_not_intro hw12)]; simp only [decide_eq_true_eq], by rw [mqOrder, if_neg hw1, mqO1, if_neg hw2, if_pos hw6, mqO2, if_neg (not_not_intro hw10), mqO3, if_neg (not_not_intro hw11), if_neg (not_not_intro hw12)]⟩)
            · skip
              refine g_iconst (v := 0) cx dX9_readOrder_150 (by decide) ?_
              exact hret _ _ _ _ dX9_readOrder_151 (by first | rfl | exact rf_bnar) (⟨by rw [mqOrder, if_neg hw1, mqO1, if_neg hw2, if_pos hw6, mqO2, if_neg (not_not_intro hw10), mqO3, if_neg (not_not_intro hw11), if_pos hw12]; rfl, by rw [mqOrder, if_neg hw1, mqO1, if_neg hw2, if_pos hw6, mqO2, if_neg (not_not_intro hw10), mqO3, if_neg (not_not_intro hw11), if_pos hw12]⟩)
          · skip
            refine g_iconst (v := 0) cx dX9_readOrder_125 (by decide) ?_
            exact hret _ _ _ _ dX9_readOrder_126 (by first | rfl | exact rf_bnar) (⟨by rw [mqOrder, if_neg hw1, mqO1, if_neg hw2, if_pos hw6, mqO2, if_neg (not_not_intro hw10), mqO3, if_pos hw11]; rfl, by rw [mqOrder, if_neg hw1, mqO1, if_neg hw2, if_pos hw6, mqO2, if_neg (not_not_intro hw10), mqO3, if_pos hw11]⟩)
        · skip
          refine g_iconst (v := 0) cx dX9_readOrder_88 (by decide) ?_
          exact hret _ _ _ _ dX9_readOrder_89 (by first | rfl | exact rf_bnar) (⟨by rw [mqOrder, if_neg hw1, mqO1, if_neg hw2, if_pos hw6, mqO2, if_pos hw10]; rfl, by rw [mqOrder, if_neg hw1, mqO1, if_neg hw2, if_pos hw6, mqO2, if_pos hw10]⟩)
  · skip
    refine g_iconst (v := 0) cx dX9_readOrder_10 (by decide) ?_
    exact hret _ _ _ _ dX9_readOrder_11 (by first | rfl | exact rf_bnar) (⟨by rw [mqOrder, if_pos hw1]; rfl, by rw [mqOrder, if_pos hw1]⟩)
def rm_X9_readFrame : Room := { frames := 4, cells := 0, slots := 0, locals := 86 }
set_option maxRecDepth 100000 in
set_option maxHeartbeats 4000000 in
theorem c_X9_readFrame (V : VT) (ad : Nat → Nat) (nw rw ps im kp tx sw sv da co pl me fa ao al : Nat → Int32) (de ax ta ts tv se il : Int32) (z : Nat) (hz : z ≤ 120) : CI V yX9_readFrame cX9_readFrame 1 .int rm_X9_readFrame [.ref (ad 0)] (wMo V ad nw rw ps im kp tx sw sv da co pl me fa ao al de (nI z) ax ta ts tv se il) (fun r_ w_ => r_ = (mqFrame tx z 121 (mBeg rw) (0, tv)).1 ∧ w_ = wMo V ad nw ((mqFrame tx z 121 (mBeg rw) (0, tv)).2.1) ps im kp tx sw sv da co pl me fa ao al de (nI z) (nI (tX tx z ((mqFrame tx z 121 (mBeg rw) (0, tv)).2.2).1)) (nI (tP tx z ((mqFrame tx z 121 (mBeg rw) (0, tv)).2.2).1)) (mK tx z ((mqFrame tx z 121 (mBeg rw) (0, tv)).2.2).1) (mV tx z ((mqFrame tx z 121 (mBeg rw) (0, tv)).2.2).1 ((mqFrame tx z 121 (mBeg rw) (0, tv)).2.2).2) se il) := by
  refine CI_intro (by decide) (Nat.le_of_ble_eq_true rfl) (fun K cx hret => ?_)
  show G V K 1 0 0 (wMo V ad nw rw ps im kp tx sw sv da co pl me fa ao al de (nI z) ax ta ts tv se il) 0 [(0, .ref (ad 0))] []
  refine g_aload_n (v := ad 0) cx dX9_readFrame_0 rfl ?_
  refine w_callv (ws' := wMo V ad nw (mBeg rw) ps im kp tx sw sv da co pl me fa ao al de (nI z) ax ta ts tv se il) (As := []) (rest := []) cx (c_X9_beginRead V ad nw rw ps im kp tx sw sv da co pl me fa ao al de (nI z) ax ta ts tv se il) ml_X9_56 dX9_readFrame_1 (q0 := 0) rfl rfl rfl rfl rfl (Nat.le_of_ble_eq_true rfl) ⟨Nat.le_of_ble_eq_true rfl, Nat.le_of_ble_eq_true rfl⟩ ⟨Nat.le_refl _, Nat.le_refl _⟩ ?_
  refine g_aload_n (v := ad 0) cx dX9_readFrame_4 rfl ?_
  refine g_iconst (v := 0) cx dX9_readFrame_5 (by decide) ?_
  refine g_top (y := nI 0) (rfl) ?_
  refine g_put (ws' := wMo V ad nw (mBeg rw) ps im kp tx sw sv da co pl me fa ao al de (nI z) (nI 0) ta ts tv se il) cx fk_X9_63 dX9_readFrame_6 0 rfl (rfl) (rfl) (Nat.le_of_ble_eq_true rfl) rfl ?_
  refine g_aload_n (v := ad 0) cx dX9_readFrame_9 rfl ?_
  refine w_callv (ws' := wMo V ad nw (mBeg rw) ps im kp tx sw sv da co pl me fa ao al de (nI z) (nI (tX tx z (0, tv).1)) (nI (tP tx z (0, tv).1)) (mK tx z (0, tv).1) (mV tx z (0, tv).1 (0, tv).2) se il) (As := []) (rest := []) cx (c_X9_scan V ad nw (mBeg rw) ps im kp tx sw sv da co pl me fa ao al de ta ts tv se il z 0 hz (Nat.zero_le _)) ml_X9_87 dX9_readFrame_10 (q0 := 0) rfl rfl rfl rfl rfl (Nat.le_of_ble_eq_true rfl) ⟨Nat.le_of_ble_eq_true rfl, Nat.le_of_ble_eq_true rfl⟩ ⟨Nat.le_refl _, Nat.le_refl _⟩ ?_
  generalize hRf : mqFrame tx z 121 (mBeg rw) (0, tv) = Rf at hret
  suffices hh : ∀ (f : Nat) (Q : Nat → Int32) (p : Nat × Int32), okQo Q → p.1 ≤ z → z - p.1 < f → mqFrame tx z f Q p = Rf → G V K 1 0 0 (wMo V ad nw Q ps im kp tx sw sv da co pl me fa ao al de (nI z) (nI (tX tx z p.1)) (nI (tP tx z p.1)) (mK tx z p.1) (mV tx z p.1 p.2) se il) 13 [(0, .ref (ad 0))] [] from hh 121 _ _ (okQo_of (n := 0) (mBeg_3 rw) (by decide)) (Nat.zero_le _) (by show z - 0 < 121; omega) hRf
  clear hRf
  intro f
  induction f with
  | zero => intro Q p _ _ h _; exact absurd h (Nat.not_lt_zero _)
  | succ f ih =>
    intro Q p hQ hp hfu hq
    obtain ⟨hn, hn6⟩ := id hQ
    simp only [mqFrame] at hq
    refine g_aload_n (v := ad 0) cx dX9_readFrame_13 rfl ?_
    refine g_get (v := .int (mK tx z p.1)) cx fk_X9_73 dX9_readFrame_14 0 rfl rfl ?_
    refine g_iconst (v := 2) cx dX9_readFrame_17 (by decide) ?_
    by_cases hk2 : mK tx z p.1 = 2
    · skip
      refine g_icmp_eq cx 67 dX9_readFrame_18 (by decide) (fun hw1 => ?_) (fun hw1 => absurd (hk2) hw1)
      refine g_aload_n (v := ad 0) cx dX9_readFrame_67 rfl ?_
      refine g_get (v := .ref (ad 2)) cx fk_X9_13 dX9_readFrame_68 0 rfl rfl ?_
      refine g_iconst (v := 3) cx dX9_readFrame_71 (by decide) ?_
      refine g_iald cx dX9_readFrame_72 2 3 rfl (nl 3) (by omega) (by first | decide | omega) ?_
      refine g_top (y := Q 3) (rfl) ?_
      refine g_if_ne cx 83 dX9_readFrame_73 (by decide) (fun hw2 => ?_) (fun hw2 => ?_)
      · skip
        refine g_bipush (v := (-9)) cx dX9_readFrame_83 (by decide) ?_
        exact hret _ _ _ _ dX9_readFrame_85 (rfl) (⟨by rw [← hq, if_pos hk2, if_neg hw2], by rw [← hq, if_pos hk2]⟩)
      · skip
        refine g_aload_n (v := ad 0) cx dX9_readFrame_76 rfl ?_
        refine g_get (v := .int (nI z)) cx fk_X9_67 dX9_readFrame_77 0 rfl rfl ?_
        refine g_goto cx 85 dX9_readFrame_80 (by decide) ?_
        exact hret _ _ _ _ dX9_readFrame_85 (rfl) (⟨by rw [← hq, if_pos hk2, if_pos hw2], by rw [← hq, if_pos hk2]⟩)
    · skip
      refine g_icmp_eq cx 67 dX9_readFrame_18 (by decide) (fun hw3 => absurd hw3 (hk2)) (fun hw3 => ?_)
      refine g_aload_n (v := ad 0) cx dX9_readFrame_21 rfl ?_
      refine g_get (v := .int (mK tx z p.1)) cx fk_X9_73 dX9_readFrame_22 0 rfl rfl ?_
      refine g_bipush (v := 114) cx dX9_readFrame_25 (by decide) ?_
      by_cases hs1 : mK tx z p.1 = 114
      · skip
        refine g_icmp_eq cx 48 dX9_readFrame_27 (by decide) (fun hw4 => ?_) (fun hw4 => absurd (hs1) hw4)
        refine g_aload_n (v := ad 0) cx dX9_readFrame_48 rfl ?_
        refine w_calli (r0 := bI ((mqOrder tx z Q p).1 = true)) (ws' := wMo V ad nw ((mqOrder tx z Q p).2.1) ps im kp tx sw sv da co pl me fa ao al de (nI z) (nI (tX tx z ((mqOrder tx z Q p).2.2).1)) (nI (tP tx z ((mqOrder tx z Q p).2.2).1)) (mK tx z ((mqOrder tx z Q p).2.2).1) (mV tx z ((mqOrder tx z Q p).2.2).1 ((mqOrder tx z Q p).2.2).2) se il) (As := []) (rest := []) cx (c_X9_readOrder V ad nw Q ps im kp tx sw sv da co pl me fa ao al de se il z p hz hp hn hn6) ml_X9_111 dX9_readFrame_49 (q0 := 0) rfl rfl rfl rfl rfl (Nat.le_of_ble_eq_true rfl) ⟨Nat.le_of_ble_eq_true rfl, Nat.le_of_ble_eq_true rfl⟩ ⟨Nat.le_refl _, Nat.le_refl _⟩ ?_
        refine g_if_ne_b cx 60 dX9_readFrame_52 (by decide) (fun hw5 => ?_) (fun hw5 => ?_)
        · skip
          have hgo : (mqOrd tx z Q p).1 = true := by rw [mqOrd, if_pos hs1]; exact hw5
          have hio0 := mqOrd_ok hp hQ hgo
          rw [mqOrd, if_pos hs1] at hio0
          refine g_aload_n (v := ad 0) cx dX9_readFrame_60 rfl ?_
          refine w_callv (ws' := wMo V ad nw ((mqOrder tx z Q p).2.1) ps im kp tx sw sv da co pl me fa ao al de (nI z) (nI (tX tx z (mS tx z ((mqOrder tx z Q p).2.2)).1)) (nI (tP tx z (mS tx z ((mqOrder tx z Q p).2.2)).1)) (mK tx z (mS tx z ((mqOrder tx z Q p).2.2)).1) (mV tx z (mS tx z ((mqOrder tx z Q p).2.2)).1 (mS tx z ((mqOrder tx z Q p).2.2)).2) se il) (As := []) (rest := []) cx (c_X9_scan V ad nw ((mqOrder tx z Q p).2.1) ps im kp tx sw sv da co pl me fa ao al de (nI (tP tx z ((mqOrder tx z Q p).2.2).1)) (mK tx z ((mqOrder tx z Q p).2.2).1) (mV tx z ((mqOrder tx z Q p).2.2).1 ((mqOrder tx z Q p).2.2).2) se il z (tX tx z ((mqOrder tx z Q p).2.2).1) hz (mS_le (hio0.2.1))) ml_X9_87 dX9_readFrame_61 (q0 := 0) rfl rfl rfl rfl rfl (Nat.le_of_ble_eq_true rfl) ⟨Nat.le_of_ble_eq_true rfl, Nat.le_of_ble_eq_true rfl⟩ ⟨Nat.le_refl _, Nat.le_refl _⟩ ?_
          refine g_goto cx 13 dX9_readFrame_64 (by decide) ?_
          rw [if_neg hk2, if_pos hgo] at hq
          have hio := mqOrd_ok hp hQ hgo
          rw [mqOrd, if_pos hs1] at hq hio
          have hgt := tX_gt (mK_lt hk2)
          exact ih _ _ hio.1 (mS_le hio.2.1) (by have h9 := mS_ge (L := tx) (z := z) (p := ((mqOrder tx z Q p).2.2)); have h8 : tX tx z p.1 ≤ ((mqOrder tx z Q p).2.2).1 := hio.2.2; have h6 : ((mqOrder tx z Q p).2.2).1 ≤ z := hio.2.1; have h7 := hgt; omega) hq
        · skip
          refine g_aload_n (v := ad 0) cx dX9_readFrame_55 rfl ?_
          refine g_get (v := .int (nI (tP tx z ((mqOrder tx z Q p).2.2).1))) cx fk_X9_70 dX9_readFrame_56 0 rfl rfl ?_
          exact hret _ _ _ _ dX9_readFrame_59 (rfl) (⟨by rw [← hq, if_neg hk2, if_neg (show ¬ (mqOrd tx z Q p).1 = true from by rw [mqOrd, if_pos hs1]; exact hw5), mqOrd, if_pos hs1], by rw [← hq, if_neg hk2, if_neg (show ¬ (mqOrd tx z Q p).1 = true from by rw [mqOrd, if_pos hs1]; exact hw5), mqOrd, if_pos hs1]⟩)
      · skip
        refine g_icmp_eq cx 48 dX9_readFrame_27 (by decide) (fun hw6 => absurd hw6 (hs1)) (fun hw6 => ?_)
        refine g_aload_n (v := ad 0) cx dX9_readFrame_30 rfl ?_
        refine g_get (v := .int (mK tx z p.1)) cx fk_X9_73 dX9_readFrame_31 0 rfl rfl ?_
        refine g_bipush (v := 119) cx dX9_readFrame_34 (by decide) ?_
        by_cases hs2 : mK tx z p.1 = 119
        · skip
          refine g_icmp_eq cx 48 dX9_readFrame_36 (by decide) (fun hw7 => ?_) (fun hw7 => absurd (hs2) hw7)
          refine g_aload_n (v := ad 0) cx dX9_readFrame_48 rfl ?_
          refine w_calli (r0 := bI ((mqOrder tx z Q p).1 = true)) (ws' := wMo V ad nw ((mqOrder tx z Q p).2.1) ps im kp tx sw sv da co pl me fa ao al de (nI z) (nI (tX tx z ((mqOrder tx z Q p).2.2).1)) (nI (tP tx z ((mqOrder tx z Q p).2.2).1)) (mK tx z ((mqOrder tx z Q p).2.2).1) (mV tx z ((mqOrder tx z Q p).2.2).1 ((mqOrder tx z Q p).2.2).2) se il) (As := []) (rest := []) cx (c_X9_readOrder V ad nw Q ps im kp tx sw sv da co pl me fa ao al de se il z p hz hp hn hn6) ml_X9_111 dX9_readFrame_49 (q0 := 0) rfl rfl rfl rfl rfl (Nat.le_of_ble_eq_true rfl) ⟨Nat.le_of_ble_eq_true rfl, Nat.le_of_ble_eq_true rfl⟩ ⟨Nat.le_refl _, Nat.le_refl _⟩ ?_
          refine g_if_ne_b cx 60 dX9_readFrame_52 (by decide) (fun hw8 => ?_) (fun hw8 => ?_)
          · skip
            have hgo : (mqOrd tx z Q p).1 = true := by rw [mqOrd, if_neg hs1, if_pos hs2]; exact hw8
            have hio0 := mqOrd_ok hp hQ hgo
            rw [mqOrd, if_neg hs1, if_pos hs2] at hio0
            refine g_aload_n (v := ad 0) cx dX9_readFrame_60 rfl ?_
            refine w_callv (ws' := wMo V ad nw ((mqOrder tx z Q p).2.1) ps im kp tx sw sv da co pl me fa ao al de (nI z) (nI (tX tx z (mS tx z ((mqOrder tx z Q p).2.2)).1)) (nI (tP tx z (mS tx z ((mqOrder tx z Q p).2.2)).1)) (mK tx z (mS tx z ((mqOrder tx z Q p).2.2)).1) (mV tx z (mS tx z ((mqOrder tx z Q p).2.2)).1 (mS tx z ((mqOrder tx z Q p).2.2)).2) se il) (As := []) (rest := []) cx (c_X9_scan V ad nw ((mqOrder tx z Q p).2.1) ps im kp tx sw sv da co pl me fa ao al de (nI (tP tx z ((mqOrder tx z Q p).2.2).1)) (mK tx z ((mqOrder tx z Q p).2.2).1) (mV tx z ((mqOrder tx z Q p).2.2).1 ((mqOrder tx z Q p).2.2).2) se il z (tX tx z ((mqOrder tx z Q p).2.2).1) hz (mS_le (hio0.2.1))) ml_X9_87 dX9_readFrame_61 (q0 := 0) rfl rfl rfl rfl rfl (Nat.le_of_ble_eq_true rfl) ⟨Nat.le_of_ble_eq_true rfl, Nat.le_of_ble_eq_true rfl⟩ ⟨Nat.le_refl _, Nat.le_refl _⟩ ?_
            refine g_goto cx 13 dX9_readFrame_64 (by decide) ?_
            rw [if_neg hk2, if_pos hgo] at hq
            have hio := mqOrd_ok hp hQ hgo
            rw [mqOrd, if_neg hs1, if_pos hs2] at hq hio
            have hgt := tX_gt (mK_lt hk2)
            exact ih _ _ hio.1 (mS_le hio.2.1) (by have h9 := mS_ge (L := tx) (z := z) (p := ((mqOrder tx z Q p).2.2)); have h8 : tX tx z p.1 ≤ ((mqOrder tx z Q p).2.2).1 := hio.2.2; have h6 : ((mqOrder tx z Q p).2.2).1 ≤ z := hio.2.1; have h7 := hgt; omega) hq
          · skip
            refine g_aload_n (v := ad 0) cx dX9_readFrame_55 rfl ?_
            refine g_get (v := .int (nI (tP tx z ((mqOrder tx z Q p).2.2).1))) cx fk_X9_70 dX9_readFrame_56 0 rfl rfl ?_
            exact hret _ _ _ _ dX9_readFrame_59 (rfl) (⟨by rw [← hq, if_neg hk2, if_neg (show ¬ (mqOrd tx z Q p).1 = true from by rw [mqOrd, if_neg hs1, if_pos hs2]; exact hw8), mqOrd, if_neg hs1, if_pos hs2], by rw [← hq, if_neg hk2, if_neg (show ¬ (mqOrd tx z Q p).1 = true from by rw [mqOrd, if_neg hs1, if_pos hs2]; exact hw8), mqOrd, if_neg hs1, if_pos hs2]⟩)
        · skip
          refine g_icmp_eq cx 48 dX9_readFrame_36 (by decide) (fun hw9 => absurd hw9 (hs2)) (fun hw9 => ?_)
          refine g_aload_n (v := ad 0) cx dX9_readFrame_39 rfl ?_
          refine g_get (v := .int (mK tx z p.1)) cx fk_X9_73 dX9_readFrame_40 0 rfl rfl ?_
          refine g_bipush (v := 120) cx dX9_readFrame_43 (by decide) ?_
          by_cases hs3 : mK tx z p.1 = 120
          · skip
            refine g_icmp_ne cx 55 dX9_readFrame_45 (by decide) (fun hw10 => absurd (hs3) hw10) (fun hw10 => ?_)
            refine g_aload_n (v := ad 0) cx dX9_readFrame_48 rfl ?_
            refine w_calli (r0 := bI ((mqOrder tx z Q p).1 = true)) (ws' := wMo V ad nw ((mqOrder tx z Q p).2.1) ps im kp tx sw sv da co pl me fa ao al de (nI z) (nI (tX tx z ((mqOrder tx z Q p).2.2).1)) (nI (tP tx z ((mqOrder tx z Q p).2.2).1)) (mK tx z ((mqOrder tx z Q p).2.2).1) (mV tx z ((mqOrder tx z Q p).2.2).1 ((mqOrder tx z Q p).2.2).2) se il) (As := []) (rest := []) cx (c_X9_readOrder V ad nw Q ps im kp tx sw sv da co pl me fa ao al de se il z p hz hp hn hn6) ml_X9_111 dX9_readFrame_49 (q0 := 0) rfl rfl rfl rfl rfl (Nat.le_of_ble_eq_true rfl) ⟨Nat.le_of_ble_eq_true rfl, Nat.le_of_ble_eq_true rfl⟩ ⟨Nat.le_refl _, Nat.le_refl _⟩ ?_
            refine g_if_ne_b cx 60 dX9_readFrame_52 (by decide) (fun hw11 => ?_) (fun hw11 => ?_)
            · skip
              have hgo : (mqOrd tx z Q p).1 = true := by rw [mqOrd, if_neg hs1, if_neg hs2, if_pos hs3]; exact hw11
              have hio0 := mqOrd_ok hp hQ hgo
              rw [mqOrd, if_neg hs1, if_neg hs2, if_pos hs3] at hio0
              refine g_aload_n (v := ad 0) cx dX9_readFrame_60 rfl ?_
              refine w_callv (ws' := wMo V ad nw ((mqOrder tx z Q p).2.1) ps im kp tx sw sv da co pl me fa ao al de (nI z) (nI (tX tx z (mS tx z ((mqOrder tx z Q p).2.2)).1)) (nI (tP tx z (mS tx z ((mqOrder tx z Q p).2.2)).1)) (mK tx z (mS tx z ((mqOrder tx z Q p).2.2)).1) (mV tx z (mS tx z ((mqOrder tx z Q p).2.2)).1 (mS tx z ((mqOrder tx z Q p).2.2)).2) se il) (As := []) (rest := []) cx (c_X9_scan V ad nw ((mqOrder tx z Q p).2.1) ps im kp tx sw sv da co pl me fa ao al de (nI (tP tx z ((mqOrder tx z Q p).2.2).1)) (mK tx z ((mqOrder tx z Q p).2.2).1) (mV tx z ((mqOrder tx z Q p).2.2).1 ((mqOrder tx z Q p).2.2).2) se il z (tX tx z ((mqOrder tx z Q p).2.2).1) hz (mS_le (hio0.2.1))) ml_X9_87 dX9_readFrame_61 (q0 := 0) rfl rfl rfl rfl rfl (Nat.le_of_ble_eq_true rfl) ⟨Nat.le_of_ble_eq_true rfl, Nat.le_of_ble_eq_true rfl⟩ ⟨Nat.le_refl _, Nat.le_refl _⟩ ?_
              refine g_goto cx 13 dX9_readFrame_64 (by decide) ?_
              rw [if_neg hk2, if_pos hgo] at hq
              have hio := mqOrd_ok hp hQ hgo
              rw [mqOrd, if_neg hs1, if_neg hs2, if_pos hs3] at hq hio
              have hgt := tX_gt (mK_lt hk2)
              exact ih _ _ hio.1 (mS_le hio.2.1) (by have h9 := mS_ge (L := tx) (z := z) (p := ((mqOrder tx z Q p).2.2)); have h8 : tX tx z p.1 ≤ ((mqOrder tx z Q p).2.2).1 := hio.2.2; have h6 : ((mqOrder tx z Q p).2.2).1 ≤ z := hio.2.1; have h7 := hgt; omega) hq
            · skip
              refine g_aload_n (v := ad 0) cx dX9_readFrame_55 rfl ?_
              refine g_get (v := .int (nI (tP tx z ((mqOrder tx z Q p).2.2).1))) cx fk_X9_70 dX9_readFrame_56 0 rfl rfl ?_
              exact hret _ _ _ _ dX9_readFrame_59 (rfl) (⟨by rw [← hq, if_neg hk2, if_neg (show ¬ (mqOrd tx z Q p).1 = true from by rw [mqOrd, if_neg hs1, if_neg hs2, if_pos hs3]; exact hw11), mqOrd, if_neg hs1, if_neg hs2, if_pos hs3], by rw [← hq, if_neg hk2, if_neg (show ¬ (mqOrd tx z Q p).1 = true from by rw [mqOrd, if_neg hs1, if_neg hs2, if_pos hs3]; exact hw11), mqOrd, if_neg hs1, if_neg hs2, if_pos hs3]⟩)
          · skip
            refine g_icmp_ne cx 55 dX9_readFrame_45 (by decide) (fun hw12 => ?_) (fun hw12 => absurd hw12 (hs3))
            refine g_aload_n (v := ad 0) cx dX9_readFrame_55 rfl ?_
            refine g_get (v := .int (nI (tP tx z p.1))) cx fk_X9_70 dX9_readFrame_56 0 rfl rfl ?_
            exact hret _ _ _ _ dX9_readFrame_59 (rfl) (⟨by rw [← hq, if_neg hk2, if_neg (show ¬ (mqOrd tx z Q p).1 = true from by rw [mqOrd, if_neg hs1, if_neg hs2, if_neg hs3]; exact Bool.false_ne_true), mqOrd, if_neg hs1, if_neg hs2, if_neg hs3], by rw [← hq, if_neg hk2, if_neg (show ¬ (mqOrd tx z Q p).1 = true from by rw [mqOrd, if_neg hs1, if_neg hs2, if_neg hs3]; exact Bool.false_ne_true), mqOrd, if_neg hs1, if_neg hs2, if_neg hs3]⟩)
