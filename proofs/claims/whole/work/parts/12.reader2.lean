theorem sw_ne {x : Int32} {k : Int} {y : Int32} (hy : y.toInt = k) (h : ¬ x = y) : ¬ x.toInt = k := fun e => h (Int32.toInt_inj.mp (e.trans hy.symm))
theorem sw_def {x : Int32} (h1 : ¬ x = 100) (h2 : ¬ x = 122) (h3 : ¬ x = 109) : Op.lookupswitch.offset (#[(100, 33), (109, 45), (122, 39)] : Array (Int × Int)).toList 51 x.toInt = 51 := by
  have e1 := sw_ne (y := 100) (k := 100) rfl h1
  have e2 := sw_ne (y := 122) (k := 122) rfl h2
  have e3 := sw_ne (y := 109) (k := 109) rfl h3
  simp [Op.lookupswitch.offset, e1, e2, e3, Ne.symm e1, Ne.symm e2, Ne.symm e3]
def okD (D : S2) : Prop := D 5 0 = nI (dn D) ∧ dn D ≤ 6
theorem okD_of {D : S2} {n : Nat} (h : D 5 0 = nI n) (hn : n ≤ 6) : okD D ∧ dn D = n := by
  have e : dn D = n := by unfold dn; rw [h]; exact nI_clamp (by omega)
  exact ⟨⟨by rw [e]; exact h, by rw [e]; exact hn⟩, e⟩
theorem qDrive_ok {L : Nat → Int32} {z : Nat} {D : S2} {p : Nat × Int32} (hp : p.1 ≤ z) (hD : okD D) : okD (qDrive L z D p).2.1 ∧ (qDrive L z D p).2.2.1 ≤ z := by
  unfold qDrive
  by_cases h1 : D 5 4 = 0 ∧ ¬ 6 ≤ D 5 0
  · rw [if_neg (not_not_intro h1)]
    by_cases h2 : tO L z (tS L z p) 1 9
    · rw [if_neg (not_not_intro h2)]
      by_cases h3 : tO L z (tS L z (tS L z p)) 0 15
      · rw [if_neg (not_not_intro h3)]
        by_cases h4 : tK L z (tS L z (tS L z (tS L z p))).1 = 59
        · rw [if_neg (not_not_intro h4)]
          refine ⟨?_, tS_le (tS_le (tS_le (tS_le hp)))⟩
          have h7 := h1.2
          rw [hD.1] at h7
          have h8 : dn D < 6 := Nat.not_le.mp (fun e => h7 (nI_le e (by have := hD.2; omega)))
          refine (okD_of (n := dn D + 1) ?_ (by omega)).1
          show D 5 0 + 1 = _
          rw [hD.1, nI_1]
        · rw [if_pos h4]; exact ⟨hD, tS_le (tS_le (tS_le hp))⟩
      · rw [if_pos h3]; exact ⟨hD, tS_le (tS_le hp)⟩
    · rw [if_pos h2]; exact ⟨hD, tS_le hp⟩
  · rw [if_pos h1]; exact ⟨hD, hp⟩
theorem qClose_ok {L : Nat → Int32} {z : Nat} {D : S2} {p : Nat × Int32} (hp : p.1 ≤ z) (hD : okD D) : okD (qClose L z D p).2.1 ∧ (qClose L z D p).2.2.1 ≤ z := by
  unfold qClose
  by_cases h1 : D 5 4 = 0 ∧ ¬ D 5 0 ≤ 0
  · rw [if_neg (not_not_intro h1)]
    by_cases h2 : tO L z (tS L z p) 1 9
    · rw [if_neg (not_not_intro h2)]
      by_cases h4 : tK L z (tS L z (tS L z p)).1 = 59
      · rw [if_neg (not_not_intro h4)]
        exact ⟨hD, tS_le (tS_le (tS_le hp))⟩
      · rw [if_pos h4]; exact ⟨hD, tS_le (tS_le hp)⟩
    · rw [if_pos h2]; exact ⟨hD, tS_le hp⟩
  · rw [if_pos h1]; exact ⟨hD, hp⟩
theorem qLimit_ok {L : Nat → Int32} {z : Nat} {D : S2} {lt : Int32} {p : Nat × Int32} (hp : p.1 ≤ z) (hD : okD D) : okD (qLimit L z D lt p).2.1 ∧ (qLimit L z D lt p).2.2.2.1 ≤ z := by
  unfold qLimit
  by_cases h1 : lt = 0
  · rw [if_neg (not_not_intro h1)]
    by_cases h2 : tO L z (tS L z p) 1 9
    · rw [if_neg (not_not_intro h2)]
      by_cases h4 : tK L z (tS L z (tS L z p)).1 = 59
      · rw [if_neg (not_not_intro h4)]
        exact ⟨hD, tS_le (tS_le (tS_le hp))⟩
      · rw [if_pos h4]; exact ⟨hD, tS_le (tS_le hp)⟩
    · rw [if_pos h2]; exact ⟨hD, tS_le hp⟩
  · rw [if_pos h1]; exact ⟨hD, hp⟩
theorem qItem_ok {L : Nat → Int32} {z : Nat} {D : S2} {lt : Int32} {p : Nat × Int32} (hp : p.1 ≤ z) (hD : okD D) : okD (qItem L z D lt p).2.1 ∧ (qItem L z D lt p).2.2.2.1 ≤ z := by
  unfold qItem
  by_cases h1 : tK L z p.1 = 100
  · rw [if_pos h1]; exact qDrive_ok hp hD
  · rw [if_neg h1]
    by_cases h2 : tK L z p.1 = 122
    · rw [if_pos h2]; exact qClose_ok hp hD
    · rw [if_neg h2]
      by_cases h3 : tK L z p.1 = 109
      · rw [if_pos h3]; exact qLimit_ok hp hD
      · rw [if_neg h3]; exact ⟨hD, hp⟩
def rm_X2_readsItem : Room := { frames := 5, cells := 0, slots := 0, locals := 108 }
set_option maxRecDepth 100000 in
set_option maxHeartbeats 4000000 in
theorem c_X2_readsItem (V : VT) (rd : Nat) (td : Nat → Nat) (L : Nat → Int32) (z : Nat) (p : Nat × Int32) (hz : z ≤ 120) (hp : p.1 ≤ z) (lt : Int32) (dd : Nat → Nat) (D : S2) (hn : D 5 0 = nI (dn D)) (hn6 : dn D ≤ 6) : CI V yX2_readsItem cX2_readsItem 2 .boolean rm_X2_readsItem [.ref rd, .ref (dd 0)] (wRd rd (td 0) lt ++ wTx V td L (nI z) (nI (tX L z p.1)) (nI (tP L z p.1)) (tK L z p.1) (tV L z p.1 p.2) ++ wRing V dd D) (fun r_ w_ => r_ = bI ((qItem L z D lt p).1 = true) ∧ w_ = wRd rd (td 0) ((qItem L z D lt p).2.2.1) ++ wTx V td L (nI z) (nI (tX L z ((qItem L z D lt p).2.2.2).1)) (nI (tP L z ((qItem L z D lt p).2.2.2).1)) (tK L z ((qItem L z D lt p).2.2.2).1) (tV L z ((qItem L z D lt p).2.2.2).1 ((qItem L z D lt p).2.2.2).2) ++ wRing V dd ((qItem L z D lt p).2.1)) := by
  refine CI_intro (by decide) (Nat.le_of_ble_eq_true rfl) (fun K cx hret => ?_)
  show G V K 2 0 0 (wRd rd (td 0) lt ++ wTx V td L (nI z) (nI (tX L z p.1)) (nI (tP L z p.1)) (tK L z p.1) (tV L z p.1 p.2) ++ wRing V dd D) 0 [(0, .ref rd), (1, .ref (dd 0))] []
  refine g_aload_n (v := rd) cx dX2_readsItem_0 rfl ?_
  refine g_get (v := .ref (td 0)) cx fk_X2_9 dX2_readsItem_1 0 rfl rfl ?_
  refine g_get (v := .int (tK L z p.1)) cx fk_X2_29 dX2_readsItem_4 1 rfl rfl ?_
  by_cases hs1 : tK L z p.1 = 100
  · skip
    refine g_lookup cx 40 dX2_readsItem_7 (by decide) (by rw [hs1]) (by decide) ?_
    refine g_aload_n (v := rd) cx dX2_readsItem_40 rfl ?_
    refine g_aload_n (v := dd 0) cx dX2_readsItem_41 rfl ?_
    refine k_calli (r0 := bI ((qDrive L z D p).1 = true)) (ws' := wRd rd (td 0) lt ++ wTx V td L (nI z) (nI (tX L z ((qDrive L z D p).2.2).1)) (nI (tP L z ((qDrive L z D p).2.2).1)) (tK L z ((qDrive L z D p).2.2).1) (tV L z ((qDrive L z D p).2.2).1 ((qDrive L z D p).2.2).2) ++ wRing V dd ((qDrive L z D p).2.1)) (As := [.ref (dd 0)]) (rest := []) cx (c_X2_readsDrive V rd td L z p hz hp lt dd D hn hn6) ml_X2_40 dX2_readsItem_42 [0, 1, 2, 3, 4, 5, 6, 7, 8] rfl rfl [rd, td 0, td 1, dd 0, dd 1, dd 2, dd 3, dd 4, dd 5] rfl rfl rfl 0 2 rfl rfl rfl rfl rfl (Nat.le_of_ble_eq_true rfl) ⟨Nat.le_of_ble_eq_true rfl, Nat.le_of_ble_eq_true rfl⟩ ⟨Nat.le_refl _, Nat.le_refl _⟩ ?_
    exact hret _ _ _ _ dX2_readsItem_45 (by first | rfl | exact rf_bnar) (⟨by rw [qItem, if_pos hs1], by rw [qItem, if_pos hs1]⟩)
  · skip
    by_cases hs2 : tK L z p.1 = 122
    · skip
      refine g_lookup cx 46 dX2_readsItem_7 (by decide) (by rw [hs2]) (by decide) ?_
      refine g_aload_n (v := rd) cx dX2_readsItem_46 rfl ?_
      refine g_aload_n (v := dd 0) cx dX2_readsItem_47 rfl ?_
      refine k_calli (r0 := bI ((qClose L z D p).1 = true)) (ws' := wRd rd (td 0) lt ++ wTx V td L (nI z) (nI (tX L z ((qClose L z D p).2.2).1)) (nI (tP L z ((qClose L z D p).2.2).1)) (tK L z ((qClose L z D p).2.2).1) (tV L z ((qClose L z D p).2.2).1 ((qClose L z D p).2.2).2) ++ wRing V dd ((qClose L z D p).2.1)) (As := [.ref (dd 0)]) (rest := []) cx (c_X2_readsClosing V rd td L z p hz hp lt dd D hn hn6) ml_X2_43 dX2_readsItem_48 [0, 1, 2, 3, 4, 5, 6, 7, 8] rfl rfl [rd, td 0, td 1, dd 0, dd 1, dd 2, dd 3, dd 4, dd 5] rfl rfl rfl 0 2 rfl rfl rfl rfl rfl (Nat.le_of_ble_eq_true rfl) ⟨Nat.le_of_ble_eq_true rfl, Nat.le_of_ble_eq_true rfl⟩ ⟨Nat.le_refl _, Nat.le_refl _⟩ ?_
      exact hret _ _ _ _ dX2_readsItem_51 (by first | rfl | exact rf_bnar) (⟨by rw [qItem, if_neg hs1, if_pos hs2], by rw [qItem, if_neg hs1, if_pos hs2]⟩)
    · skip
      by_cases hs3 : tK L z p.1 = 109
      · skip
        refine g_lookup cx 52 dX2_readsItem_7 (by decide) (by rw [hs3]) (by decide) ?_
        refine g_aload_n (v := rd) cx dX2_readsItem_52 rfl ?_
        refine g_aload_n (v := dd 0) cx dX2_readsItem_53 rfl ?_
        refine k_calli (r0 := bI ((qLimit L z D lt p).1 = true)) (ws' := wRd rd (td 0) ((qLimit L z D lt p).2.2.1) ++ wTx V td L (nI z) (nI (tX L z ((qLimit L z D lt p).2.2.2).1)) (nI (tP L z ((qLimit L z D lt p).2.2.2).1)) (tK L z ((qLimit L z D lt p).2.2.2).1) (tV L z ((qLimit L z D lt p).2.2.2).1 ((qLimit L z D lt p).2.2.2).2) ++ wRing V dd ((qLimit L z D lt p).2.1)) (As := [.ref (dd 0)]) (rest := []) cx (c_X2_readsLimit V rd td L z p hz hp lt dd D) ml_X2_46 dX2_readsItem_54 [0, 1, 2, 3, 4, 5, 6, 7, 8] rfl rfl [rd, td 0, td 1, dd 0, dd 1, dd 2, dd 3, dd 4, dd 5] rfl rfl rfl 0 2 rfl rfl rfl rfl rfl (Nat.le_of_ble_eq_true rfl) ⟨Nat.le_of_ble_eq_true rfl, Nat.le_of_ble_eq_true rfl⟩ ⟨Nat.le_refl _, Nat.le_refl _⟩ ?_
        exact hret _ _ _ _ dX2_readsItem_57 (by first | rfl | exact rf_bnar) (⟨by rw [qItem, if_neg hs1, if_neg hs2, if_pos hs3], by rw [qItem, if_neg hs1, if_neg hs2, if_pos hs3]⟩)
      · skip
        refine g_lookup cx 58 dX2_readsItem_7 (by decide) (sw_def hs1 hs2 hs3) (by decide) ?_
        refine g_iconst (v := 0) cx dX2_readsItem_58 (by decide) ?_
        exact hret _ _ _ _ dX2_readsItem_59 (by first | rfl | exact rf_bnar) (⟨by rw [qItem, if_neg hs1, if_neg hs2, if_neg hs3]; rfl, by rw [qItem, if_neg hs1, if_neg hs2, if_neg hs3]⟩)
def rm_X2_readsWire : Room := { frames := 6, cells := 0, slots := 0, locals := 129 }
set_option maxRecDepth 100000 in
set_option maxHeartbeats 4000000 in
theorem c_X2_readsWire (V : VT) (rd : Nat) (td : Nat → Nat) (L : Nat → Int32) (z : Nat) (hz : z ≤ 120) (lt b c d u : Int32) (dd : Nat → Nat) (D : S2) : CI V yX2_readsWire cX2_readsWire 3 .boolean rm_X2_readsWire [.ref rd, .ref (dd 0)] (wRd rd (td 0) lt ++ wTx V td L (nI z) b c d u ++ wRing V dd D) (fun r_ w_ => r_ = bI ((qWire L z 120 (rEmpty D) 0 (0, u)).1 = true) ∧ w_ = wRd rd (td 0) ((qWire L z 120 (rEmpty D) 0 (0, u)).2.2.1) ++ wTx V td L (nI z) (nI (tX L z ((qWire L z 120 (rEmpty D) 0 (0, u)).2.2.2).1)) (nI (tP L z ((qWire L z 120 (rEmpty D) 0 (0, u)).2.2.2).1)) (tK L z ((qWire L z 120 (rEmpty D) 0 (0, u)).2.2.2).1) (tV L z ((qWire L z 120 (rEmpty D) 0 (0, u)).2.2.2).1 ((qWire L z 120 (rEmpty D) 0 (0, u)).2.2.2).2) ++ wRing V dd ((qWire L z 120 (rEmpty D) 0 (0, u)).2.1)) := by
  refine CI_intro (by decide) (Nat.le_of_ble_eq_true rfl) (fun K cx hret => ?_)
  show G V K 3 0 0 (wRd rd (td 0) lt ++ wTx V td L (nI z) b c d u ++ wRing V dd D) 0 [(0, .ref rd), (1, .ref (dd 0))] []
  refine g_aload_n (v := dd 0) cx dX2_readsWire_0 rfl ?_
  refine k_callv (ws' := wRd rd (td 0) lt ++ wTx V td L (nI z) b c d u ++ wRing V dd (rEmpty D)) (As := []) (rest := []) cx (c_X3_becomeEmpty V dd D) ml_X2_15 dX2_readsWire_1 [3, 4, 5, 6, 7, 8] rfl rfl [dd 0, dd 1, dd 2, dd 3, dd 4, dd 5] rfl rfl rfl 0 3 rfl rfl rfl rfl rfl (Nat.le_of_ble_eq_true rfl) ⟨Nat.le_of_ble_eq_true rfl, Nat.le_of_ble_eq_true rfl⟩ ⟨Nat.le_refl _, Nat.le_refl _⟩ ?_
  refine g_aload_n (v := rd) cx dX2_readsWire_4 rfl ?_
  refine g_iconst (v := 0) cx dX2_readsWire_5 (by decide) ?_
  refine g_put (ws' := wRd rd (td 0) 0 ++ wTx V td L (nI z) b c d u ++ wRing V dd (rEmpty D)) cx fk_X2_20 dX2_readsWire_6 0 rfl (rfl) (rfl) (Nat.le_of_ble_eq_true rfl) rfl ?_
  refine g_aload_n (v := rd) cx dX2_readsWire_9 rfl ?_
  refine g_get (v := .ref (td 0)) cx fk_X2_9 dX2_readsWire_10 0 rfl rfl ?_
  refine k_callv (ws' := wRd rd (td 0) 0 ++ wTx V td L (nI z) (nI (tX L z (0, u).1)) (nI (tP L z (0, u).1)) (tK L z (0, u).1) (tV L z (0, u).1 (0, u).2) ++ wRing V dd (rEmpty D)) (As := []) (rest := []) cx (c_X7_begin V td L z b c d u hz) ml_X2_24 dX2_readsWire_13 [1, 2] rfl rfl [td 0, td 1] rfl rfl rfl 0 7 rfl rfl rfl rfl rfl (Nat.le_of_ble_eq_true rfl) ⟨Nat.le_of_ble_eq_true rfl, Nat.le_of_ble_eq_true rfl⟩ ⟨Nat.le_refl _, Nat.le_refl _⟩ ?_
  refine g_iconst (v := 0) cx dX2_readsWire_16 (by decide) ?_
  refine g_istore_n (lv' := [(0, .ref rd), (1, .ref (dd 0)), (2, .int 0)]) cx dX2_readsWire_17 (by decide) rfl ?_
  generalize hRf : qWire L z 120 (rEmpty D) 0 (0, u) = Rf at hret
  suffices hh : ∀ (f i : Nat) (D : S2) (lt : Int32) (p : Nat × Int32), i + f = 120 → okD D → p.1 ≤ z → qWire L z f D lt p = Rf → G V K 3 0 0 (wRd rd (td 0) lt ++ wTx V td L (nI z) (nI (tX L z p.1)) (nI (tP L z p.1)) (tK L z p.1) (tV L z p.1 p.2) ++ wRing V dd D) 18 [(0, .ref rd), (1, .ref (dd 0)), (2, .int (nI i))] [] from hh 120 0 _ _ _ rfl (okD_of (n := 0) rfl (by decide)).1 (Nat.zero_le _) hRf
  clear hRf D
  intro f
  induction f with
  | zero =>
    intro i D lt p hi hD hp hq
    obtain ⟨hn, hn6⟩ := id hD
    refine g_iload_n (v := nI i) cx dX2_readsWire_18 rfl ?_
    refine g_bipush (v := 120) cx dX2_readsWire_19 (by decide) ?_
    refine g_icmp_ge cx 53 dX2_readsWire_21 (by decide) (fun hw1 => ?_) (fun hw1 => absurd (rf_geMP rfl (nl 120) (by omega) (by omega) (by omega)) hw1)
    refine g_aload_n (v := dd 0) cx dX2_readsWire_53 rfl ?_
    refine g_get (v := .int (D 5 0)) cx fk_X2_37 dX2_readsWire_54 3 rfl rfl ?_
    refine g_if_le cx 64 dX2_readsWire_57 (by decide) (fun hw2 => ?_) (fun hw2 => ?_)
    · skip
      refine g_iconst (v := 0) cx dX2_readsWire_64 (by decide) ?_
      exact hret _ _ _ _ dX2_readsWire_65 (by first | rfl | exact rf_bnar) (⟨by rw [← hq]; simp only [bI, qWire, hw2, not_true_eq_false, not_false_eq_true, and_true, true_and, and_false, false_and, or_true, true_or, or_false, false_or, if_true, if_false, decide_true, decide_false, Bool.false_eq_true, decide_eq_true_eq], by rw [← hq]; rfl⟩)
    · skip
      refine g_iconst (v := 1) cx dX2_readsWire_60 (by decide) ?_
      refine g_goto cx 65 dX2_readsWire_61 (by decide) ?_
      exact hret _ _ _ _ dX2_readsWire_65 (by first | rfl | exact rf_bnar) (⟨by rw [← hq]; simp only [bI, qWire, hw2, not_true_eq_false, not_false_eq_true, and_true, true_and, and_false, false_and, or_true, true_or, or_false, false_or, if_true, if_false, decide_true, decide_false, Bool.false_eq_true, decide_eq_true_eq], by rw [← hq]; rfl⟩)
  | succ f ih =>
    intro i D lt p hi hD hp hq
    obtain ⟨hn, hn6⟩ := id hD
    simp only [qWire] at hq
    refine g_iload_n (v := nI i) cx dX2_readsWire_18 rfl ?_
    refine g_bipush (v := 120) cx dX2_readsWire_19 (by decide) ?_
    refine g_icmp_ge cx 53 dX2_readsWire_21 (by decide) (fun hw3 => absurd hw3 (rf_geMN rfl (nl 120) (by omega) (by omega) (by omega))) (fun hw3 => ?_)
    refine g_aload_n (v := rd) cx dX2_readsWire_24 rfl ?_
    refine g_get (v := .ref (td 0)) cx fk_X2_9 dX2_readsWire_25 0 rfl rfl ?_
    refine g_get (v := .int (tK L z p.1)) cx fk_X2_29 dX2_readsWire_28 1 rfl rfl ?_
    refine g_sipush (v := 257) cx dX2_readsWire_31 (by decide) ?_
    by_cases hk : tK L z p.1 = 257
    · skip
      refine g_icmp_eq cx 53 dX2_readsWire_34 (by decide) (fun hw4 => ?_) (fun hw4 => absurd (hk) hw4)
      refine g_aload_n (v := dd 0) cx dX2_readsWire_53 rfl ?_
      refine g_get (v := .int (D 5 0)) cx fk_X2_37 dX2_readsWire_54 3 rfl rfl ?_
      refine g_if_le cx 64 dX2_readsWire_57 (by decide) (fun hw5 => ?_) (fun hw5 => ?_)
      · skip
        refine g_iconst (v := 0) cx dX2_readsWire_64 (by decide) ?_
        exact hret _ _ _ _ dX2_readsWire_65 (by first | rfl | exact rf_bnar) (⟨by rw [← hq, if_pos hk]; simp only [bI, hw5, not_true_eq_false, not_false_eq_true, and_true, true_and, and_false, false_and, or_true, true_or, or_false, false_or, if_true, if_false, decide_true, decide_false, Bool.false_eq_true, decide_eq_true_eq], by rw [← hq, if_pos hk]⟩)
      · skip
        refine g_iconst (v := 1) cx dX2_readsWire_60 (by decide) ?_
        refine g_goto cx 65 dX2_readsWire_61 (by decide) ?_
        exact hret _ _ _ _ dX2_readsWire_65 (by first | rfl | exact rf_bnar) (⟨by rw [← hq, if_pos hk]; simp only [bI, hw5, not_true_eq_false, not_false_eq_true, and_true, true_and, and_false, false_and, or_true, true_or, or_false, false_or, if_true, if_false, decide_true, decide_false, Bool.false_eq_true, decide_eq_true_eq], by rw [← hq, if_pos hk]⟩)
    · skip
      refine g_icmp_eq cx 53 dX2_readsWire_34 (by decide) (fun hw6 => absurd hw6 (hk)) (fun hw6 => ?_)
      refine g_aload_n (v := rd) cx dX2_readsWire_37 rfl ?_
      refine g_aload_n (v := dd 0) cx dX2_readsWire_38 rfl ?_
      refine k_calli (r0 := bI ((qItem L z D lt p).1 = true)) (ws' := wRd rd (td 0) ((qItem L z D lt p).2.2.1) ++ wTx V td L (nI z) (nI (tX L z ((qItem L z D lt p).2.2.2).1)) (nI (tP L z ((qItem L z D lt p).2.2.2).1)) (tK L z ((qItem L z D lt p).2.2.2).1) (tV L z ((qItem L z D lt p).2.2.2).1 ((qItem L z D lt p).2.2.2).2) ++ wRing V dd ((qItem L z D lt p).2.1)) (As := [.ref (dd 0)]) (rest := []) cx (c_X2_readsItem V rd td L z p hz hp lt dd D hn hn6) ml_X2_33 dX2_readsWire_39 [0, 1, 2, 3, 4, 5, 6, 7, 8] rfl rfl [rd, td 0, td 1, dd 0, dd 1, dd 2, dd 3, dd 4, dd 5] rfl rfl rfl 0 2 rfl rfl rfl rfl rfl (Nat.le_of_ble_eq_true rfl) ⟨Nat.le_of_ble_eq_true rfl, Nat.le_of_ble_eq_true rfl⟩ ⟨Nat.le_refl _, Nat.le_refl _⟩ ?_
      refine g_if_ne_b cx 47 dX2_readsWire_42 (by decide) (fun hw7 => ?_) (fun hw7 => ?_)
      · skip
        refine g_iinc (x := nI i) (v := nI (i + 1)) (lv' := [(0, .ref rd), (1, .ref (dd 0)), (2, .int (nI (i + 1)))]) cx dX2_readsWire_47 rfl (by decide) (nI_add _ _) rfl ?_
        refine g_goto cx 18 dX2_readsWire_50 (by decide) ?_
        rw [if_neg hk, if_pos hw7] at hq
        exact ih (i + 1) _ _ _ (by omega) (qItem_ok hp hD).1 (qItem_ok hp hD).2 hq
      · skip
        refine g_iconst (v := 0) cx dX2_readsWire_45 (by decide) ?_
        exact hret _ _ _ _ dX2_readsWire_46 (by first | rfl | exact rf_bnar) (⟨by rw [← hq, if_neg hk, if_neg hw7]; rfl, by rw [← hq, if_neg hk, if_neg hw7]⟩)
