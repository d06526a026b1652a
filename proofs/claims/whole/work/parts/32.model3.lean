def mqItem (L : Nat → Int32) (z : Nat) (Q : Nat → Int32) (il : Int32) (p : Nat × Int32) : Bool × (Nat → Int32) × Int32 × (Nat × Int32) :=
  if mK L z p.1 = 100 then ((mqDrive L z Q p).1, (mqDrive L z Q p).2.1, il, (mqDrive L z Q p).2.2)
  else if mK L z p.1 = 122 then ((mqLast L z Q p).1, (mqLast L z Q p).2.1, il, (mqLast L z Q p).2.2)
  else if mK L z p.1 = 109 then mqLimit L z Q il p
  else (false, Q, il, p)
def mqWire (L : Nat → Int32) (z : Nat) : Nat → (Nat → Int32) → Int32 → (Nat × Int32) → Int32 × (Nat → Int32) × Int32 × (Nat × Int32)
  | 0, Q, il, p => (0, Q, il, p)
  | f + 1, Q, il, p => if mK L z p.1 = 2 then ((if Q 0 = 0 then nI z else -9), Q, il, p)
    else if (mqItem L z Q il p).1 = true then mqWire L z f (mqItem L z Q il p).2.1 (mqItem L z Q il p).2.2.1 (mS L z (mqItem L z Q il p).2.2.2)
    else (nI (tP L z (mqItem L z Q il p).2.2.2.1), (mqItem L z Q il p).2)
theorem tX_ge (L : Nat → Int32) (z x : Nat) : x ≤ tX L z x := by
  have h : x ≤ tP L z x := Nat.le_add_right _ _
  unfold tX
  split
  · split <;> omega
  · exact h
theorem tC_pos {L : Nat → Int32} {z p : Nat} (hp : p < z) (h : tFg (L p)) : 1 ≤ tC L z p := by
  rcases Nat.eq_zero_or_pos (tC L z p) with e | e
  · exfalso
    have hy := ff_yes (fun j => decide (¬ tFg (L (p + j)))) (z - p) (by show tC L z p < z - p; omega)
    have hy2 : ¬ tFg (L (p + tC L z p)) := of_decide_eq_true hy
    rw [e] at hy2
    exact hy2 h
  · exact e
theorem tX_gt {L : Nat → Int32} {z x : Nat} (h : tP L z x < z) : x < tX L z x := by
  have h1 : x ≤ tP L z x := Nat.le_add_right _ _
  unfold tX
  rw [if_pos h]
  by_cases f : tFg (L (tP L z x))
  · rw [if_pos f]; have := tC_pos h f; omega
  · rw [if_neg f]; omega
theorem mK_lt {L : Nat → Int32} {z x : Nat} (h : ¬ mK L z x = 2) : tP L z x < z := by
  rcases Nat.lt_or_ge (tP L z x) z with c | c
  · exact c
  · exact absurd (by unfold mK; rw [if_neg (by omega)]) h
theorem mS_ge {L : Nat → Int32} {z : Nat} {p : Nat × Int32} : p.1 ≤ (mS L z p).1 := tX_ge L z p.1
def okQ (Q : Nat → Int32) : Prop := Q 0 = nI (qn Q) ∧ qn Q ≤ 6
theorem okQ_of {Q : Nat → Int32} {n : Nat} (h : Q 0 = nI n) (hn : n ≤ 6) : okQ Q := by
  have e : qn Q = n := by unfold qn; rw [h]; exact nI_clamp (by omega)
  exact ⟨by rw [e]; exact h, by omega⟩
theorem mqDrive_ok {L : Nat → Int32} {z : Nat} {Q : Nat → Int32} {p : Nat × Int32} (hp : p.1 ≤ z) (hQ : okQ Q) (hg : (mqDrive L z Q p).1 = true) : okQ (mqDrive L z Q p).2.1 ∧ (mqDrive L z Q p).2.2.1 ≤ z ∧ (mS L z p).1 ≤ (mqDrive L z Q p).2.2.1 := by
  revert hg
  unfold mqDrive
  by_cases h0 : Q 0 = 6
  · rw [if_pos h0]; intro hg; exact absurd hg Bool.false_ne_true
  · rw [if_neg h0]
    by_cases h1 : Q 1 = 1
    · rw [if_pos h1]; intro hg; exact absurd hg Bool.false_ne_true
    · rw [if_neg h1]
      by_cases h2 : mO L z (mS L z p) 1 9
      · rw [if_neg (not_not_intro h2)]
        by_cases h3 : mO L z (mS L z (mS L z p)) 0 15
        · rw [if_neg (not_not_intro h3)]
          intro _
          refine ⟨?_, mS_le (mS_le (mS_le hp)), Nat.le_trans mS_ge mS_ge⟩
          have hn : qn Q < 6 := by
            have h4 := hQ.2
            rcases Nat.lt_or_ge (qn Q) 6 with c | c
            · exact c
            · exact absurd (by rw [hQ.1, show qn Q = 6 by omega]; rfl) h0
          refine okQ_of (n := qn Q + 1) ?_ (by omega)
          show mqD2 L z Q (mS L z p) (mS L z (mS L z p)) 0 = _
          unfold mqD2
          rw [pk_us, pk_un (by omega)]
          unfold mqD1
          rw [pk_un (by omega), hQ.1, nI_1]
        · rw [if_pos h3]; intro hg; exact absurd hg Bool.false_ne_true
      · rw [if_pos h2]; intro hg; exact absurd hg Bool.false_ne_true
theorem mqLast_ok {L : Nat → Int32} {z : Nat} {Q : Nat → Int32} {p : Nat × Int32} (hp : p.1 ≤ z) (hQ : okQ Q) (hg : (mqLast L z Q p).1 = true) : okQ (mqLast L z Q p).2.1 ∧ (mqLast L z Q p).2.2.1 ≤ z ∧ (mS L z p).1 ≤ (mqLast L z Q p).2.2.1 := by
  revert hg
  unfold mqLast
  by_cases h0 : Q 0 = 0
  · rw [if_pos h0]; intro hg; exact absurd hg Bool.false_ne_true
  · rw [if_neg h0]
    by_cases h1 : Q 1 = 1
    · rw [if_pos h1]; intro hg; exact absurd hg Bool.false_ne_true
    · rw [if_neg h1]
      by_cases h2 : mO L z (mS L z p) 1 9
      · rw [if_neg (not_not_intro h2)]
        intro _
        refine ⟨okQ_of (n := qn Q) ?_ hQ.2, mS_le (mS_le hp), mS_ge⟩
        show (upd (upd Q (9 + qn Q) (mU L z (mS L z p))) 1 1) 0 = _
        rw [pk_un (by decide), pk_un (by omega)]; exact hQ.1
      · rw [if_pos h2]; intro hg; exact absurd hg Bool.false_ne_true
theorem mqLimit_ok {L : Nat → Int32} {z : Nat} {Q : Nat → Int32} {il : Int32} {p : Nat × Int32} (hp : p.1 ≤ z) (hQ : okQ Q) (hg : (mqLimit L z Q il p).1 = true) : okQ (mqLimit L z Q il p).2.1 ∧ (mqLimit L z Q il p).2.2.2.1 ≤ z ∧ (mS L z p).1 ≤ (mqLimit L z Q il p).2.2.2.1 := by
  revert hg
  unfold mqLimit
  by_cases h0 : il = 0
  · rw [if_neg (not_not_intro h0)]
    by_cases h2 : mO L z (mS L z p) 1 9
    · rw [if_neg (not_not_intro h2)]
      intro _
      refine ⟨okQ_of (n := qn Q) ?_ hQ.2, mS_le (mS_le hp), mS_ge⟩
      show (upd Q 2 (mU L z (mS L z p))) 0 = _
      rw [pk_un (by decide)]; exact hQ.1
    · rw [if_pos h2]; intro hg; exact absurd hg Bool.false_ne_true
  · rw [if_pos h0]; intro hg; exact absurd hg Bool.false_ne_true
theorem mqItem_ok {L : Nat → Int32} {z : Nat} {Q : Nat → Int32} {il : Int32} {p : Nat × Int32} (hp : p.1 ≤ z) (hQ : okQ Q) (hg : (mqItem L z Q il p).1 = true) : okQ (mqItem L z Q il p).2.1 ∧ (mqItem L z Q il p).2.2.2.1 ≤ z ∧ (mS L z p).1 ≤ (mqItem L z Q il p).2.2.2.1 := by
  revert hg
  unfold mqItem
  by_cases h1 : mK L z p.1 = 100
  · rw [if_pos h1]; exact mqDrive_ok hp hQ
  · rw [if_neg h1]
    by_cases h2 : mK L z p.1 = 122
    · rw [if_pos h2]; exact mqLast_ok hp hQ
    · rw [if_neg h2]
      by_cases h3 : mK L z p.1 = 109
      · rw [if_pos h3]; exact mqLimit_ok hp hQ
      · rw [if_neg h3]; intro hg; exact absurd hg Bool.false_ne_true
theorem mBeg_0 (f : Nat → Int32) : mBeg f 0 = 0 := by
  unfold mBeg
  rw [pk_un (by decide), pk_un (by decide), pk_un (by decide)]
  unfold rFill
  rw [fl_fill]
  rfl
def rm_X9_readWire : Room := { frames := 4, cells := 0, slots := 0, locals := 86 }
set_option maxRecDepth 100000 in
set_option maxHeartbeats 4000000 in
theorem c_X9_readWire (V : VT) (ad : Nat → Nat) (nw rw ps im kp tx sw sv da co pl me fa ao al : Nat → Int32) (de ax ta ts tv se il : Int32) (z : Nat) (hz : z ≤ 120) : CI V yX9_readWire cX9_readWire 2 .int rm_X9_readWire [.ref (ad 0)] (wMo V ad nw rw ps im kp tx sw sv da co pl me fa ao al de (nI z) ax ta ts tv se il) (fun r_ w_ => r_ = (mqWire tx z 121 (mBeg rw) 0 (0, tv)).1 ∧ w_ = wMo V ad nw ((mqWire tx z 121 (mBeg rw) 0 (0, tv)).2.1) ps im kp tx sw sv da co pl me fa ao al de (nI z) (nI (tX tx z ((mqWire tx z 121 (mBeg rw) 0 (0, tv)).2.2.2).1)) (nI (tP tx z ((mqWire tx z 121 (mBeg rw) 0 (0, tv)).2.2.2).1)) (mK tx z ((mqWire tx z 121 (mBeg rw) 0 (0, tv)).2.2.2).1) (mV tx z ((mqWire tx z 121 (mBeg rw) 0 (0, tv)).2.2.2).1 ((mqWire tx z 121 (mBeg rw) 0 (0, tv)).2.2.2).2) se ((mqWire tx z 121 (mBeg rw) 0 (0, tv)).2.2.1)) := by
  refine CI_intro (by decide) (Nat.le_of_ble_eq_true rfl) (fun K cx hret => ?_)
  show G V K 2 0 0 (wMo V ad nw rw ps im kp tx sw sv da co pl me fa ao al de (nI z) ax ta ts tv se il) 0 [(0, .ref (ad 0))] []
  refine g_aload_n (v := ad 0) cx dX9_readWire_0 rfl ?_
  refine w_callv (ws' := wMo V ad nw (mBeg rw) ps im kp tx sw sv da co pl me fa ao al de (nI z) ax ta ts tv se il) (As := []) (rest := []) cx (c_X9_beginRead V ad nw rw ps im kp tx sw sv da co pl me fa ao al de (nI z) ax ta ts tv se il) ml_X9_56 dX9_readWire_1 (q0 := 0) rfl rfl rfl rfl rfl (Nat.le_of_ble_eq_true rfl) ⟨Nat.le_of_ble_eq_true rfl, Nat.le_of_ble_eq_true rfl⟩ ⟨Nat.le_refl _, Nat.le_refl _⟩ ?_
  refine g_aload_n (v := ad 0) cx dX9_readWire_4 rfl ?_
  refine g_iconst (v := 0) cx dX9_readWire_5 (by decide) ?_
  refine g_put (ws' := wMo V ad nw (mBeg rw) ps im kp tx sw sv da co pl me fa ao al de (nI z) ax ta ts tv se 0) cx fk_X9_98 dX9_readWire_6 0 rfl (rfl) (rfl) (Nat.le_of_ble_eq_true rfl) rfl ?_
  refine g_aload_n (v := ad 0) cx dX9_readWire_9 rfl ?_
  refine g_iconst (v := 0) cx dX9_readWire_10 (by decide) ?_
  refine g_top (y := nI 0) (rfl) ?_
  refine g_put (ws' := wMo V ad nw (mBeg rw) ps im kp tx sw sv da co pl me fa ao al de (nI z) (nI 0) ta ts tv se 0) cx fk_X9_63 dX9_readWire_11 0 rfl (rfl) (rfl) (Nat.le_of_ble_eq_true rfl) rfl ?_
  refine g_aload_n (v := ad 0) cx dX9_readWire_14 rfl ?_
  refine w_callv (ws' := wMo V ad nw (mBeg rw) ps im kp tx sw sv da co pl me fa ao al de (nI z) (nI (tX tx z (0, tv).1)) (nI (tP tx z (0, tv).1)) (mK tx z (0, tv).1) (mV tx z (0, tv).1 (0, tv).2) se 0) (As := []) (rest := []) cx (c_X9_scan V ad nw (mBeg rw) ps im kp tx sw sv da co pl me fa ao al de ta ts tv se 0 z 0 hz (Nat.zero_le _)) ml_X9_87 dX9_readWire_15 (q0 := 0) rfl rfl rfl rfl rfl (Nat.le_of_ble_eq_true rfl) ⟨Nat.le_of_ble_eq_true rfl, Nat.le_of_ble_eq_true rfl⟩ ⟨Nat.le_refl _, Nat.le_refl _⟩ ?_
  generalize hRf : mqWire tx z 121 (mBeg rw) 0 (0, tv) = Rf at hret
  suffices hh : ∀ (f : Nat) (Q : Nat → Int32) (il : Int32) (p : Nat × Int32), okQ Q → p.1 ≤ z → z - p.1 < f → mqWire tx z f Q il p = Rf → G V K 2 0 0 (wMo V ad nw Q ps im kp tx sw sv da co pl me fa ao al de (nI z) (nI (tX tx z p.1)) (nI (tP tx z p.1)) (mK tx z p.1) (mV tx z p.1 p.2) se il) 18 [(0, .ref (ad 0))] [] from hh 121 _ _ _ (okQ_of (n := 0) (mBeg_0 rw) (by decide)) (Nat.zero_le _) (by show z - 0 < 121; omega) hRf
  clear hRf il
  intro f
  induction f with
  | zero => intro Q il p _ _ h _; exact absurd h (Nat.not_lt_zero _)
  | succ f ih =>
    intro Q il p hQ hp hfu hq
    obtain ⟨hn, hn6⟩ := id hQ
    simp only [mqWire] at hq
    refine g_aload_n (v := ad 0) cx dX9_readWire_18 rfl ?_
    refine g_get (v := .int (mK tx z p.1)) cx fk_X9_73 dX9_readWire_19 0 rfl rfl ?_
    refine g_iconst (v := 2) cx dX9_readWire_22 (by decide) ?_
    by_cases hk2 : mK tx z p.1 = 2
    · skip
      refine g_icmp_eq cx 96 dX9_readWire_23 (by decide) (fun hw1 => ?_) (fun hw1 => absurd (hk2) hw1)
      refine g_aload_n (v := ad 0) cx dX9_readWire_96 rfl ?_
      refine g_get (v := .ref (ad 2)) cx fk_X9_13 dX9_readWire_97 0 rfl rfl ?_
      refine g_iconst (v := 0) cx dX9_readWire_100 (by decide) ?_
      refine g_iald cx dX9_readWire_101 2 0 rfl (nl 0) (by omega) (by first | decide | omega) ?_
      refine g_top (y := Q 0) (rfl) ?_
      refine g_if_ne cx 112 dX9_readWire_102 (by decide) (fun hw2 => ?_) (fun hw2 => ?_)
      · skip
        refine g_bipush (v := (-9)) cx dX9_readWire_112 (by decide) ?_
        exact hret _ _ _ _ dX9_readWire_114 (rfl) (⟨by rw [← hq, if_pos hk2, if_neg hw2], by rw [← hq, if_pos hk2]⟩)
      · skip
        refine g_aload_n (v := ad 0) cx dX9_readWire_105 rfl ?_
        refine g_get (v := .int (nI z)) cx fk_X9_67 dX9_readWire_106 0 rfl rfl ?_
        refine g_goto cx 114 dX9_readWire_109 (by decide) ?_
        exact hret _ _ _ _ dX9_readWire_114 (rfl) (⟨by rw [← hq, if_pos hk2, if_pos hw2], by rw [← hq, if_pos hk2]⟩)
    · skip
      refine g_icmp_eq cx 96 dX9_readWire_23 (by decide) (fun hw3 => absurd hw3 (hk2)) (fun hw3 => ?_)
      refine g_aload_n (v := ad 0) cx dX9_readWire_26 rfl ?_
      refine g_get (v := .int (mK tx z p.1)) cx fk_X9_73 dX9_readWire_27 0 rfl rfl ?_
      refine g_bipush (v := 100) cx dX9_readWire_30 (by decide) ?_
      by_cases hs1 : mK tx z p.1 = 100
      · skip
        refine g_icmp_ne cx 42 dX9_readWire_32 (by decide) (fun hw4 => absurd (hs1) hw4) (fun hw4 => ?_)
        refine g_aload_n (v := ad 0) cx dX9_readWire_35 rfl ?_
        refine w_calli (r0 := bI ((mqDrive tx z Q p).1 = true)) (ws' := wMo V ad nw ((mqDrive tx z Q p).2.1) ps im kp tx sw sv da co pl me fa ao al de (nI z) (nI (tX tx z ((mqDrive tx z Q p).2.2).1)) (nI (tP tx z ((mqDrive tx z Q p).2.2).1)) (mK tx z ((mqDrive tx z Q p).2.2).1) (mV tx z ((mqDrive tx z Q p).2.2).1 ((mqDrive tx z Q p).2.2).2) se il) (As := []) (rest := []) cx (c_X9_readDrive V ad nw Q ps im kp tx sw sv da co pl me fa ao al de se il z p hz hp hn hn6) ml_X9_102 dX9_readWire_36 (q0 := 0) rfl rfl rfl rfl rfl (Nat.le_of_ble_eq_true rfl) ⟨Nat.le_of_ble_eq_true rfl, Nat.le_of_ble_eq_true rfl⟩ ⟨Nat.le_refl _, Nat.le_refl _⟩ ?_
        refine g_goto cx 79 dX9_readWire_39 (by decide) ?_
        refine g_istore_n (lv' := [(0, .ref (ad 0)), (1, .int (bI ((mqDrive tx z Q p).1 = true)))]) cx dX9_readWire_79 (by decide) rfl ?_
        refine g_iload_n (v := bI ((mqDrive tx z Q p).1 = true)) cx dX9_readWire_80 rfl ?_
        refine g_if_ne_b cx 89 dX9_readWire_81 (by decide) (fun hw5 => ?_) (fun hw5 => ?_)
        · skip
          have hgo : (mqItem tx z Q il p).1 = true := by rw [mqItem, if_pos hs1]; exact hw5
          have hio0 := mqItem_ok hp hQ hgo
          rw [mqItem, if_pos hs1] at hio0
          refine g_aload_n (v := ad 0) cx dX9_readWire_89 rfl ?_
          refine w_callv (ws' := wMo V ad nw ((mqDrive tx z Q p).2.1) ps im kp tx sw sv da co pl me fa ao al de (nI z) (nI (tX tx z (mS tx z ((mqDrive tx z Q p).2.2)).1)) (nI (tP tx z (mS tx z ((mqDrive tx z Q p).2.2)).1)) (mK tx z (mS tx z ((mqDrive tx z Q p).2.2)).1) (mV tx z (mS tx z ((mqDrive tx z Q p).2.2)).1 (mS tx z ((mqDrive tx z Q p).2.2)).2) se il) (As := []) (rest := []) cx (c_X9_scan V ad nw ((mqDrive tx z Q p).2.1) ps im kp tx sw sv da co pl me fa ao al de (nI (tP tx z ((mqDrive tx z Q p).2.2).1)) (mK tx z ((mqDrive tx z Q p).2.2).1) (mV tx z ((mqDrive tx z Q p).2.2).1 ((mqDrive tx z Q p).2.2).2) se il z (tX tx z ((mqDrive tx z Q p).2.2).1) hz (mS_le (hio0.2.1))) ml_X9_87 dX9_readWire_90 (q0 := 0) rfl rfl rfl rfl rfl (Nat.le_of_ble_eq_true rfl) ⟨Nat.le_of_ble_eq_true rfl, Nat.le_of_ble_eq_true rfl⟩ ⟨Nat.le_refl _, Nat.le_refl _⟩ ?_
          refine g_goto cx 18 dX9_readWire_93 (by decide) ?_
          refine g_lvk (lv' := [(0, .ref (ad 0))]) [0] rfl ?_
          rw [if_neg hk2, if_pos hgo] at hq
          have hio := mqItem_ok hp hQ hgo
          rw [mqItem, if_pos hs1] at hq hio
          have hgt := tX_gt (mK_lt hk2)
          exact ih _ _ _ hio.1 (mS_le hio.2.1) (by have h9 := mS_ge (L := tx) (z := z) (p := ((mqDrive tx z Q p).2.2)); have h8 : tX tx z p.1 ≤ ((mqDrive tx z Q p).2.2).1 := hio.2.2; have h6 : ((mqDrive tx z Q p).2.2).1 ≤ z := hio.2.1; have h7 := hgt; omega) hq
        · skip
          refine g_aload_n (v := ad 0) cx dX9_readWire_84 rfl ?_
          refine g_get (v := .int (nI (tP tx z ((mqDrive tx z Q p).2.2).1))) cx fk_X9_70 dX9_readWire_85 0 rfl rfl ?_
          exact hret _ _ _ _ dX9_readWire_88 (rfl) (⟨by rw [← hq, if_neg hk2, if_neg (show ¬ (mqItem tx z Q il p).1 = true from by rw [mqItem, if_pos hs1]; exact hw5), mqItem, if_pos hs1], by rw [← hq, if_neg hk2, if_neg (show ¬ (mqItem tx z Q il p).1 = true from by rw [mqItem, if_pos hs1]; exact hw5), mqItem, if_pos hs1]⟩)
      · skip
        refine g_icmp_ne cx 42 dX9_readWire_32 (by decide) (fun hw6 => ?_) (fun hw6 => absurd hw6 (hs1))
        refine g_aload_n (v := ad 0) cx dX9_readWire_42 rfl ?_
        refine g_get (v := .int (mK tx z p.1)) cx fk_X9_73 dX9_readWire_43 0 rfl rfl ?_
        refine g_bipush (v := 122) cx dX9_readWire_46 (by decide) ?_
        by_cases hs2 : mK tx z p.1 = 122
        · skip
          refine g_icmp_ne cx 58 dX9_readWire_48 (by decide) (fun hw7 => absurd (hs2) hw7) (fun hw7 => ?_)
          refine g_aload_n (v := ad 0) cx dX9_readWire_51 rfl ?_
          refine w_calli (r0 := bI ((mqLast tx z Q p).1 = true)) (ws' := wMo V ad nw ((mqLast tx z Q p).2.1) ps im kp tx sw sv da co pl me fa ao al de (nI z) (nI (tX tx z ((mqLast tx z Q p).2.2).1)) (nI (tP tx z ((mqLast tx z Q p).2.2).1)) (mK tx z ((mqLast tx z Q p).2.2).1) (mV tx z ((mqLast tx z Q p).2.2).1 ((mqLast tx z Q p).2.2).2) se il) (As := []) (rest := []) cx (c_X9_readLast V ad nw Q ps im kp tx sw sv da co pl me fa ao al de se il z p hz hp hn hn6) ml_X9_105 dX9_readWire_52 (q0 := 0) rfl rfl rfl rfl rfl (Nat.le_of_ble_eq_true rfl) ⟨Nat.le_of_ble_eq_true rfl, Nat.le_of_ble_eq_true rfl⟩ ⟨Nat.le_refl _, Nat.le_refl _⟩ ?_
          refine g_goto cx 79 dX9_readWire_55 (by decide) ?_
          refine g_istore_n (lv' := [(0, .ref (ad 0)), (1, .int (bI ((mqLast tx z Q p).1 = true)))]) cx dX9_readWire_79 (by decide) rfl ?_
          refine g_iload_n (v := bI ((mqLast tx z Q p).1 = true)) cx dX9_readWire_80 rfl ?_
          refine g_if_ne_b cx 89 dX9_readWire_81 (by decide) (fun hw8 => ?_) (fun hw8 => ?_)
          · skip
            have hgo : (mqItem tx z Q il p).1 = true := by rw [mqItem, if_neg hs1, if_pos hs2]; exact hw8
            have hio0 := mqItem_ok hp hQ hgo
            rw [mqItem, if_neg hs1, if_pos hs2] at hio0
            refine g_aload_n (v := ad 0) cx dX9_readWire_89 rfl ?_
            refine w_callv (ws' := wMo V ad nw ((mqLast tx z Q p).2.1) ps im kp tx sw sv da co pl me fa ao al de (nI z) (nI (tX tx z (mS tx z ((mqLast tx z Q p).2.2)).1)) (nI (tP tx z (mS tx z ((mqLast tx z Q p).2.2)).1)) (mK tx z (mS tx z ((mqLast tx z Q p).2.2)).1) (mV tx z (mS tx z ((mqLast tx z Q p).2.2)).1 (mS tx z ((mqLast tx z Q p).2.2)).2) se il) (As := []) (rest := []) cx (c_X9_scan V ad nw ((mqLast tx z Q p).2.1) ps im kp tx sw sv da co pl me fa ao al de (nI (tP tx z ((mqLast tx z Q p).2.2).1)) (mK tx z ((mqLast tx z Q p).2.2).1) (mV tx z ((mqLast tx z Q p).2.2).1 ((mqLast tx z Q p).2.2).2) se il z (tX tx z ((mqLast tx z Q p).2.2).1) hz (mS_le (hio0.2.1))) ml_X9_87 dX9_readWire_90 (q0 := 0) rfl rfl rfl rfl rfl (Nat.le_of_ble_eq_true rfl) ⟨Nat.le_of_ble_eq_true rfl, Nat.le_of_ble_eq_true rfl⟩ ⟨Nat.le_refl _, Nat.le_refl _⟩ ?_
            refine g_goto cx 18 dX9_readWire_93 (by decide) ?_
            refine g_lvk (lv' := [(0, .ref (ad 0))]) [0] rfl ?_
            rw [if_neg hk2, if_pos hgo] at hq
            have hio := mqItem_ok hp hQ hgo
            rw [mqItem, if_neg hs1, if_pos hs2] at hq hio
            have hgt := tX_gt (mK_lt hk2)
            exact ih _ _ _ hio.1 (mS_le hio.2.1) (by have h9 := mS_ge (L := tx) (z := z) (p := ((mqLast tx z Q p).2.2)); have h8 : tX tx z p.1 ≤ ((mqLast tx z Q p).2.2).1 := hio.2.2; have h6 : ((mqLast tx z Q p).2.2).1 ≤ z := hio.2.1; have h7 := hgt; omega) hq
          · skip
            refine g_aload_n (v := ad 0) cx dX9_readWire_84 rfl ?_
            refine g_get (v := .int (nI (tP tx z ((mqLast tx z Q p).2.2).1))) cx fk_X9_70 dX9_readWire_85 0 rfl rfl ?_
            exact hret _ _ _ _ dX9_readWire_88 (rfl) (⟨by rw [← hq, if_neg hk2, if_neg (show ¬ (mqItem tx z Q il p).1 = true from by rw [mqItem, if_neg hs1, if_pos hs2]; exact hw8), mqItem, if_neg hs1, if_pos hs2], by rw [← hq, if_neg hk2, if_neg (show ¬ (mqItem tx z Q il p).1 = true from by rw [mqItem, if_neg hs1, if_pos hs2]; exact hw8), mqItem, if_neg hs1, if_pos hs2]⟩)
        · skip
          refine g_icmp_ne cx 58 dX9_readWire_48 (by decide) (fun hw9 => ?_) (fun hw9 => absurd hw9 (hs2))
          refine g_aload_n (v := ad 0) cx dX9_readWire_58 rfl ?_
          refine g_get (v := .int (mK tx z p.1)) cx fk_X9_73 dX9_readWire_59 0 rfl rfl ?_
          refine g_bipush (v := 109) cx dX9_readWire_62 (by decide) ?_
          by_cases hs3 : mK tx z p.1 = 109
          · skip
            refine g_icmp_ne cx 78 dX9_readWire_64 (by decide) (fun hw10 => absurd (hs3) hw10) (fun hw10 => ?_)
            refine g_aload_n (v := ad 0) cx dX9_readWire_67 rfl ?_
            refine w_calli (r0 := bI ((mqLimit tx z Q il p).1 = true)) (ws' := wMo V ad nw ((mqLimit tx z Q il p).2.1) ps im kp tx sw sv da co pl me fa ao al de (nI z) (nI (tX tx z ((mqLimit tx z Q il p).2.2.2).1)) (nI (tP tx z ((mqLimit tx z Q il p).2.2.2).1)) (mK tx z ((mqLimit tx z Q il p).2.2.2).1) (mV tx z ((mqLimit tx z Q il p).2.2.2).1 ((mqLimit tx z Q il p).2.2.2).2) se ((mqLimit tx z Q il p).2.2.1)) (As := []) (rest := []) cx (c_X9_readLimit V ad nw Q ps im kp tx sw sv da co pl me fa ao al de se il z p hz hp) ml_X9_108 dX9_readWire_68 (q0 := 0) rfl rfl rfl rfl rfl (Nat.le_of_ble_eq_true rfl) ⟨Nat.le_of_ble_eq_true rfl, Nat.le_of_ble_eq_true rfl⟩ ⟨Nat.le_refl _, Nat.le_refl _⟩ ?_
            refine g_if_eq_b cx 78 dX9_readWire_71 (by decide) (fun hw11 => ?_) (fun hw11 => ?_)
            · skip
              refine g_iconst (v := 0) cx dX9_readWire_78 (by decide) ?_
              refine g_istore_n (lv' := [(0, .ref (ad 0)), (1, .int 0)]) cx dX9_readWire_79 (by decide) rfl ?_
              refine g_iload_n (v := 0) cx dX9_readWire_80 rfl ?_
              refine g_if_ne cx 89 dX9_readWire_81 (by decide) (fun hw12 => absurd (by decide) hw12) (fun hw12 => ?_)
              refine g_aload_n (v := ad 0) cx dX9_readWire_84 rfl ?_
              refine g_get (v := .int (nI (tP tx z ((mqLimit tx z Q il p).2.2.2).1))) cx fk_X9_70 dX9_readWire_85 0 rfl rfl ?_
              exact hret _ _ _ _ dX9_readWire_88 (rfl) (⟨by rw [← hq, if_neg hk2, if_neg (show ¬ (mqItem tx z Q il p).1 = true from by rw [mqItem, if_neg hs1, if_neg hs2, if_pos hs3]; exact hw11), mqItem, if_neg hs1, if_neg hs2, if_pos hs3], by rw [← hq, if_neg hk2, if_neg (show ¬ (mqItem tx z Q il p).1 = true from by rw [mqItem, if_neg hs1, if_neg hs2, if_pos hs3]; exact hw11), mqItem, if_neg hs1, if_neg hs2, if_pos hs3]⟩)
            · skip
              refine g_iconst (v := 1) cx dX9_readWire_74 (by decide) ?_
              refine g_goto cx 79 dX9_readWire_75 (by decide) ?_
              refine g_istore_n (lv' := [(0, .ref (ad 0)), (1, .int 1)]) cx dX9_readWire_79 (by decide) rfl ?_
              refine g_iload_n (v := 1) cx dX9_readWire_80 rfl ?_
              refine g_if_ne cx 89 dX9_readWire_81 (by decide) (fun hw13 => ?_) (fun hw13 => absurd hw13 (by decide))
              have hgo : (mqItem tx z Q il p).1 = true := by rw [mqItem, if_neg hs1, if_neg hs2, if_pos hs3]; exact hw11
              have hio0 := mqItem_ok hp hQ hgo
              rw [mqItem, if_neg hs1, if_neg hs2, if_pos hs3] at hio0
              refine g_aload_n (v := ad 0) cx dX9_readWire_89 rfl ?_
              refine w_callv (ws' := wMo V ad nw ((mqLimit tx z Q il p).2.1) ps im kp tx sw sv da co pl me fa ao al de (nI z) (nI (tX tx z (mS tx z ((mqLimit tx z Q il p).2.2.2)).1)) (nI (tP tx z (mS tx z ((mqLimit tx z Q il p).2.2.2)).1)) (mK tx z (mS tx z ((mqLimit tx z Q il p).2.2.2)).1) (mV tx z (mS tx z ((mqLimit tx z Q il p).2.2.2)).1 (mS tx z ((mqLimit tx z Q il p).2.2.2)).2) se ((mqLimit tx z Q il p).2.2.1)) (As := []) (rest := []) cx (c_X9_scan V ad nw ((mqLimit tx z Q il p).2.1) ps im kp tx sw sv da co pl me fa ao al de (nI (tP tx z ((mqLimit tx z Q il p).2.2.2).1)) (mK tx z ((mqLimit tx z Q il p).2.2.2).1) (mV tx z ((mqLimit tx z Q il p).2.2.2).1 ((mqLimit tx z Q il p).2.2.2).2) se ((mqLimit tx z Q il p).2.2.1) z (tX tx z ((mqLimit tx z Q il p).2.2.2).1) hz (mS_le (hio0.2.1))) ml_X9_87 dX9_readWire_90 (q0 := 0) rfl rfl rfl rfl rfl (Nat.le_of_ble_eq_true rfl) ⟨Nat.le_of_ble_eq_true rfl, Nat.le_of_ble_eq_true rfl⟩ ⟨Nat.le_refl _, Nat.le_refl _⟩ ?_
              refine g_goto cx 18 dX9_readWire_93 (by decide) ?_
              refine g_lvk (lv' := [(0, .ref (ad 0))]) [0] rfl ?_
              rw [if_neg hk2, if_pos hgo] at hq
              have hio := mqItem_ok hp hQ hgo
              rw [mqItem, if_neg hs1, if_neg hs2, if_pos hs3] at hq hio
              have hgt := tX_gt (mK_lt hk2)
              exact ih _ _ _ hio.1 (mS_le hio.2.1) (by have h9 := mS_ge (L := tx) (z := z) (p := ((mqLimit tx z Q il p).2.2.2)); have h8 : tX tx z p.1 ≤ ((mqLimit tx z Q il p).2.2.2).1 := hio.2.2; have h6 : ((mqLimit tx z Q il p).2.2.2).1 ≤ z := hio.2.1; have h7 := hgt; omega) hq
          · skip
            refine g_icmp_ne cx 78 dX9_readWire_64 (by decide) (fun hw14 => ?_) (fun hw14 => absurd hw14 (hs3))
            refine g_iconst (v := 0) cx dX9_readWire_78 (by decide) ?_
            refine g_istore_n (lv' := [(0, .ref (ad 0)), (1, .int 0)]) cx dX9_readWire_79 (by decide) rfl ?_
            refine g_iload_n (v := 0) cx dX9_readWire_80 rfl ?_
            refine g_if_ne cx 89 dX9_readWire_81 (by decide) (fun hw15 => absurd (by decide) hw15) (fun hw15 => ?_)
            refine g_aload_n (v := ad 0) cx dX9_readWire_84 rfl ?_
            refine g_get (v := .int (nI (tP tx z p.1))) cx fk_X9_70 dX9_readWire_85 0 rfl rfl ?_
            exact hret _ _ _ _ dX9_readWire_88 (rfl) (⟨by rw [← hq, if_neg hk2, if_neg (show ¬ (mqItem tx z Q il p).1 = true from by rw [mqItem, if_neg hs1, if_neg hs2, if_neg hs3]; exact Bool.false_ne_true), mqItem, if_neg hs1, if_neg hs2, if_neg hs3], by rw [← hq, if_neg hk2, if_neg (show ¬ (mqItem tx z Q il p).1 = true from by rw [mqItem, if_neg hs1, if_neg hs2, if_neg hs3]; exact Bool.false_ne_true), mqItem, if_neg hs1, if_neg hs2, if_neg hs3]⟩)
