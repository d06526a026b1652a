def okO (D : S2) : Prop := D 5 1 = nI (on D) ∧ on D ≤ 4
theorem okO_of {D : S2} {n : Nat} (h : D 5 1 = nI n) (hn : n ≤ 4) : okO D ∧ on D = n := by
  have e : on D = n := by unfold on; rw [h]; exact nI_clamp (by omega)
  exact ⟨⟨by rw [e]; exact h, by rw [e]; exact hn⟩, e⟩
theorem qOrd3_ok {L : Nat → Int32} {z : Nat} {D : S2} {l a n : Int32} {p : Nat × Int32} (hp : p.1 ≤ z) (hD : okO D) (h4 : on D < 4) : okO (qOrd3 L z D l a n p).2.1 ∧ (qOrd3 L z D l a n p).2.2.1 ≤ z := by
  unfold qOrd3
  by_cases h1 : tO L z p 0 3
  · rw [if_neg (not_not_intro h1)]
    by_cases h2 : tO L z (tS L z p) 0 255
    · rw [if_neg (not_not_intro h2)]
      by_cases h3 : tK L z (tS L z (tS L z p)).1 = 59
      · rw [if_neg (not_not_intro h3)]
        refine ⟨(okO_of (n := on D + 1) ?_ (by omega)).1, tS_le (tS_le (tS_le hp))⟩
        show D 5 1 + 1 = _
        rw [hD.1, nI_1]
      · rw [if_pos h3]; exact ⟨hD, tS_le (tS_le hp)⟩
    · rw [if_pos h2]; exact ⟨hD, tS_le hp⟩
  · rw [if_pos h1]; exact ⟨hD, hp⟩
theorem lt4_of {D : S2} (hD : okO D) (h : ¬ 4 ≤ D 5 1) : on D < 4 := by
  rw [hD.1] at h
  exact Nat.not_le.mp (fun e => h (nI_le e (by have := hD.2; omega)))
theorem qOrder_ok {L : Nat → Int32} {z : Nat} {D : S2} {p : Nat × Int32} (hp : p.1 ≤ z) (hD : okO D) : okO (qOrder L z D p).2.1 ∧ (qOrder L z D p).2.2.1 ≤ z := by
  unfold qOrder
  by_cases h1 : ¬ 4 ≤ D 5 1 ∧ qRwx (tK L z p.1)
  · rw [if_neg (not_not_intro h1)]
    have h4 := lt4_of hD h1.1
    by_cases h2 : qPsb (tK L z (tS L z p).1)
    · rw [if_neg (not_not_intro h2)]
      by_cases h3 : tK L z (tS L z p).1 = 98
      · rw [if_pos h3]; exact qOrd3_ok (tS_le (tS_le hp)) hD h4
      · rw [if_neg h3]
        by_cases h5 : tO L z (tS L z (tS L z p)) 0 15
        · rw [if_neg (not_not_intro h5)]; exact qOrd3_ok (tS_le (tS_le (tS_le hp))) hD h4
        · rw [if_pos h5]; exact ⟨hD, tS_le (tS_le hp)⟩
    · rw [if_pos h2]; exact ⟨hD, tS_le hp⟩
  · rw [if_pos h1]; exact ⟨hD, hp⟩
def rm_X2_readsOrder : Room := { frames := 4, cells := 0, slots := 0, locals := 85 }
set_option maxRecDepth 100000 in
set_option maxHeartbeats 4000000 in
theorem c_X2_readsOrder (V : VT) (rd : Nat) (td : Nat → Nat) (L : Nat → Int32) (z : Nat) (p : Nat × Int32) (hz : z ≤ 120) (hp : p.1 ≤ z) (lt : Int32) (dd : Nat → Nat) (D : S2) (ho : D 5 1 = nI (on D)) (ho4 : on D ≤ 4) : CI V yX2_readsOrder cX2_readsOrder 7 .boolean rm_X2_readsOrder [.ref rd, .ref (dd 0)] (wRd rd (td 0) lt ++ wTx V td L (nI z) (nI (tX L z p.1)) (nI (tP L z p.1)) (tK L z p.1) (tV L z p.1 p.2) ++ wRing V dd D) (fun r_ w_ => r_ = bI ((qOrder L z D p).1 = true) ∧ w_ = wRd rd (td 0) lt ++ wTx V td L (nI z) (nI (tX L z ((qOrder L z D p).2.2).1)) (nI (tP L z ((qOrder L z D p).2.2).1)) (tK L z ((qOrder L z D p).2.2).1) (tV L z ((qOrder L z D p).2.2).1 ((qOrder L z D p).2.2).2) ++ wRing V dd ((qOrder L z D p).2.1)) := by
  refine CI_intro (by decide) (Nat.le_of_ble_eq_true rfl) (fun K cx hret => ?_)
  show G V K 7 0 0 (wRd rd (td 0) lt ++ wTx V td L (nI z) (nI (tX L z p.1)) (nI (tP L z p.1)) (tK L z p.1) (tV L z p.1 p.2) ++ wRing V dd D) 0 [(0, .ref rd), (1, .ref (dd 0))] []
  refine g_aload_n (v := rd) cx dX2_readsOrder_0 rfl ?_
  refine g_get (v := .ref (td 0)) cx fk_X2_9 dX2_readsOrder_1 0 rfl rfl ?_
  refine g_get (v := .int (tK L z p.1)) cx fk_X2_29 dX2_readsOrder_4 1 rfl rfl ?_
  refine g_istore_n (lv' := [(0, .ref rd), (1, .ref (dd 0)), (2, .int (tK L z p.1))]) cx dX2_readsOrder_7 (by decide) rfl ?_
  refine g_aload_n (v := dd 0) cx dX2_readsOrder_8 rfl ?_
  refine k_calli (r0 := bI (¬ 4 ≤ D 5 1)) (ws' := wRd rd (td 0) lt ++ wTx V td L (nI z) (nI (tX L z p.1)) (nI (tP L z p.1)) (tK L z p.1) (tV L z p.1 p.2) ++ wRing V dd D) (As := []) (rest := []) cx (c_X3_takesOrder V dd D) ml_X2_86 dX2_readsOrder_9 [3, 4, 5, 6, 7, 8] rfl rfl [dd 0, dd 1, dd 2, dd 3, dd 4, dd 5] rfl rfl rfl 0 3 rfl rfl rfl rfl rfl (Nat.le_of_ble_eq_true rfl) ⟨Nat.le_of_ble_eq_true rfl, Nat.le_of_ble_eq_true rfl⟩ ⟨Nat.le_refl _, Nat.le_refl _⟩ ?_
  refine g_if_eq_b cx 33 dX2_readsOrder_12 (by decide) (fun hw1 => ?_) (fun hw1 => ?_)
  · skip
    refine g_iconst (v := 0) cx dX2_readsOrder_33 (by decide) ?_
    exact hret _ _ _ _ dX2_readsOrder_34 (by first | rfl | exact rf_bnar) (⟨by rw [qOrder, if_pos (fun h => hw1 h.1)]; rfl, by rw [qOrder, if_pos (fun h => hw1 h.1)]⟩)
  · skip
    by_cases hR : qRwx (tK L z p.1)
    · have hC1 : ¬ 4 ≤ D 5 1 ∧ qRwx (tK L z p.1) := ⟨hw1, hR⟩
      have h35 : G V K 7 0 0 (wRd rd (td 0) lt ++ wTx V td L (nI z) (nI (tX L z p.1)) (nI (tP L z p.1)) (tK L z p.1) (tV L z p.1 p.2) ++ wRing V dd D) 35 [(0, .ref rd), (1, .ref (dd 0)), (2, .int (tK L z p.1))] [] := by
        refine g_aload_n (v := rd) cx dX2_readsOrder_35 rfl ?_
        refine g_get (v := .ref (td 0)) cx fk_X2_9 dX2_readsOrder_36 0 rfl rfl ?_
        refine k_callv (ws' := wRd rd (td 0) lt ++ wTx V td L (nI z) (nI (tX L z (tS L z p).1)) (nI (tP L z (tS L z p).1)) (tK L z (tS L z p).1) (tV L z (tS L z p).1 (tS L z p).2) ++ wRing V dd D) (As := []) (rest := []) cx (c_X7_step V td L z (tX L z p.1) (nI (tP L z p.1)) (tK L z p.1) (tV L z p.1 p.2) hz (tS_le (L := L) (hp))) ml_X2_53 dX2_readsOrder_39 [1, 2] rfl rfl [td 0, td 1] rfl rfl rfl 0 7 rfl rfl rfl rfl rfl (Nat.le_of_ble_eq_true rfl) ⟨Nat.le_of_ble_eq_true rfl, Nat.le_of_ble_eq_true rfl⟩ ⟨Nat.le_refl _, Nat.le_refl _⟩ ?_
        refine g_aload_n (v := rd) cx dX2_readsOrder_42 rfl ?_
        refine g_get (v := .ref (td 0)) cx fk_X2_9 dX2_readsOrder_43 0 rfl rfl ?_
        refine g_get (v := .int (tK L z (tS L z p).1)) cx fk_X2_29 dX2_readsOrder_46 1 rfl rfl ?_
        refine g_istore_n (lv' := [(0, .ref rd), (1, .ref (dd 0)), (2, .int (tK L z p.1)), (3, .int (tK L z (tS L z p).1))]) cx dX2_readsOrder_49 (by decide) rfl ?_
        by_cases hC2 : qPsb (tK L z (tS L z p).1)
        · have h70 : G V K 7 0 0 (wRd rd (td 0) lt ++ wTx V td L (nI z) (nI (tX L z (tS L z p).1)) (nI (tP L z (tS L z p).1)) (tK L z (tS L z p).1) (tV L z (tS L z p).1 (tS L z p).2) ++ wRing V dd D) 70 [(0, .ref rd), (1, .ref (dd 0)), (2, .int (tK L z p.1)), (3, .int (tK L z (tS L z p).1))] [] := by
            refine g_aload_n (v := rd) cx dX2_readsOrder_70 rfl ?_
            refine g_get (v := .ref (td 0)) cx fk_X2_9 dX2_readsOrder_71 0 rfl rfl ?_
            refine k_callv (ws' := wRd rd (td 0) lt ++ wTx V td L (nI z) (nI (tX L z (tS L z (tS L z p)).1)) (nI (tP L z (tS L z (tS L z p)).1)) (tK L z (tS L z (tS L z p)).1) (tV L z (tS L z (tS L z p)).1 (tS L z (tS L z p)).2) ++ wRing V dd D) (As := []) (rest := []) cx (c_X7_step V td L z (tX L z (tS L z p).1) (nI (tP L z (tS L z p).1)) (tK L z (tS L z p).1) (tV L z (tS L z p).1 (tS L z p).2) hz (tS_le (L := L) (tS_le (hp)))) ml_X2_53 dX2_readsOrder_74 [1, 2] rfl rfl [td 0, td 1] rfl rfl rfl 0 7 rfl rfl rfl rfl rfl (Nat.le_of_ble_eq_true rfl) ⟨Nat.le_of_ble_eq_true rfl, Nat.le_of_ble_eq_true rfl⟩ ⟨Nat.le_refl _, Nat.le_refl _⟩ ?_
            refine g_iload_n (v := tK L z (tS L z p).1) cx dX2_readsOrder_77 rfl ?_
            refine g_bipush (v := 98) cx dX2_readsOrder_78 (by decide) ?_
            by_cases hB : tK L z (tS L z p).1 = 98
            · skip
              refine g_icmp_ne cx 88 dX2_readsOrder_80 (by decide) (fun hw2 => absurd (hB) hw2) (fun hw2 => ?_)
              refine g_bipush (v := (-9)) cx dX2_readsOrder_83 (by decide) ?_
              refine g_goto cx 95 dX2_readsOrder_85 (by decide) ?_
              refine g_istore (lv' := [(0, .ref rd), (1, .ref (dd 0)), (2, .int (tK L z p.1)), (3, .int (tK L z (tS L z p).1)), (4, .int (-9))]) cx dX2_readsOrder_95 (by decide) rfl ?_
              refine g_iload (v := (-9)) cx dX2_readsOrder_97 rfl ?_
              refine g_iconst (v := (-1)) cx dX2_readsOrder_99 (by decide) ?_
              refine g_icmp_ne cx 105 dX2_readsOrder_100 (by decide) (fun hw3 => ?_) (fun hw3 => absurd hw3 (by decide))
              refine g_aload_n (v := rd) cx dX2_readsOrder_105 rfl ?_
              refine g_iconst (v := 0) cx dX2_readsOrder_106 (by decide) ?_
              refine g_iconst (v := 3) cx dX2_readsOrder_107 (by decide) ?_
              by_cases hk5 : tO L z (tS L z (tS L z p)) 0 3
              · skip
                refine k_calli (r0 := tU L z (tS L z (tS L z p))) (ws' := wRd rd (td 0) lt ++ wTx V td L (nI z) (nI (tX L z (tS L z (tS L z (tS L z p))).1)) (nI (tP L z (tS L z (tS L z (tS L z p))).1)) (tK L z (tS L z (tS L z (tS L z p))).1) (tV L z (tS L z (tS L z (tS L z p))).1 (tS L z (tS L z (tS L z p))).2) ++ wRing V dd D) (As := [.int 0, .int 3]) (rest := []) cx (c_X2_takeNumber_ok V rd td L z (tS L z (tS L z p)) hz (tS_le (tS_le (hp))) lt 0 3 hk5) ml_X2_56 dX2_readsOrder_108 [0, 1, 2] rfl rfl [rd, td 0, td 1] rfl rfl rfl 0 2 rfl rfl rfl rfl rfl (Nat.le_of_ble_eq_true rfl) ⟨Nat.le_of_ble_eq_true rfl, Nat.le_of_ble_eq_true rfl⟩ ⟨Nat.le_refl _, Nat.le_refl _⟩ ?_
                refine g_istore (lv' := [(0, .ref rd), (1, .ref (dd 0)), (2, .int (tK L z p.1)), (3, .int (tK L z (tS L z p).1)), (4, .int (-9)), (5, .int (tU L z (tS L z (tS L z p))))]) cx dX2_readsOrder_111 (by decide) rfl ?_
                refine g_iload (v := tU L z (tS L z (tS L z p))) cx dX2_readsOrder_113 rfl ?_
                refine g_iconst (v := (-1)) cx dX2_readsOrder_115 (by decide) ?_
                refine g_icmp_ne cx 121 dX2_readsOrder_116 (by decide) (fun hw4 => ?_) (fun hw4 => absurd hw4 (tO_ne hk5 (by decide)))
                refine g_aload_n (v := rd) cx dX2_readsOrder_121 rfl ?_
                refine g_iconst (v := 0) cx dX2_readsOrder_122 (by decide) ?_
                refine g_sipush (v := 255) cx dX2_readsOrder_123 (by decide) ?_
                by_cases hk6 : tO L z (tS L z (tS L z (tS L z p))) 0 255
                · skip
                  refine k_calli (r0 := tU L z (tS L z (tS L z (tS L z p)))) (ws' := wRd rd (td 0) lt ++ wTx V td L (nI z) (nI (tX L z (tS L z (tS L z (tS L z (tS L z p)))).1)) (nI (tP L z (tS L z (tS L z (tS L z (tS L z p)))).1)) (tK L z (tS L z (tS L z (tS L z (tS L z p)))).1) (tV L z (tS L z (tS L z (tS L z (tS L z p)))).1 (tS L z (tS L z (tS L z (tS L z p)))).2) ++ wRing V dd D) (As := [.int 0, .int 255]) (rest := []) cx (c_X2_takeNumber_ok V rd td L z (tS L z (tS L z (tS L z p))) hz (tS_le (tS_le (tS_le (hp)))) lt 0 255 hk6) ml_X2_56 dX2_readsOrder_126 [0, 1, 2] rfl rfl [rd, td 0, td 1] rfl rfl rfl 0 2 rfl rfl rfl rfl rfl (Nat.le_of_ble_eq_true rfl) ⟨Nat.le_of_ble_eq_true rfl, Nat.le_of_ble_eq_true rfl⟩ ⟨Nat.le_refl _, Nat.le_refl _⟩ ?_
                  refine g_istore (lv' := [(0, .ref rd), (1, .ref (dd 0)), (2, .int (tK L z p.1)), (3, .int (tK L z (tS L z p).1)), (4, .int (-9)), (5, .int (tU L z (tS L z (tS L z p)))), (6, .int (tU L z (tS L z (tS L z (tS L z p)))))]) cx dX2_readsOrder_129 (by decide) rfl ?_
                  refine g_iload (v := tU L z (tS L z (tS L z (tS L z p)))) cx dX2_readsOrder_131 rfl ?_
                  refine g_iconst (v := (-1)) cx dX2_readsOrder_133 (by decide) ?_
                  refine g_icmp_eq cx 144 dX2_readsOrder_134 (by decide) (fun hw5 => absurd hw5 (tO_ne hk6 (by decide))) (fun hw5 => ?_)
                  refine g_aload_n (v := rd) cx dX2_readsOrder_137 rfl ?_
                  by_cases hk7 : tK L z (tS L z (tS L z (tS L z (tS L z p)))).1 = 59
                  · skip
                    refine k_calli (r0 := 1) (ws' := wRd rd (td 0) lt ++ wTx V td L (nI z) (nI (tX L z (tS L z (tS L z (tS L z (tS L z (tS L z p))))).1)) (nI (tP L z (tS L z (tS L z (tS L z (tS L z (tS L z p))))).1)) (tK L z (tS L z (tS L z (tS L z (tS L z (tS L z p))))).1) (tV L z (tS L z (tS L z (tS L z (tS L z (tS L z p))))).1 (tS L z (tS L z (tS L z (tS L z (tS L z p))))).2) ++ wRing V dd D) (As := []) (rest := []) cx (c_X2_takesEnd_ok V rd td L z (tS L z (tS L z (tS L z (tS L z p)))) hz (tS_le (tS_le (tS_le (tS_le (hp))))) lt hk7) ml_X2_60 dX2_readsOrder_138 [0, 1, 2] rfl rfl [rd, td 0, td 1] rfl rfl rfl 0 2 rfl rfl rfl rfl rfl (Nat.le_of_ble_eq_true rfl) ⟨Nat.le_of_ble_eq_true rfl, Nat.le_of_ble_eq_true rfl⟩ ⟨Nat.le_refl _, Nat.le_refl _⟩ ?_
                    refine g_if_ne cx 146 dX2_readsOrder_141 (by decide) (fun hw6 => ?_) (fun hw6 => absurd hw6 (by decide))
                    refine g_aload_n (v := dd 0) cx dX2_readsOrder_146 rfl ?_
                    refine g_iload_n (v := tK L z p.1) cx dX2_readsOrder_147 rfl ?_
                    refine g_iload_n (v := tK L z (tS L z p).1) cx dX2_readsOrder_148 rfl ?_
                    refine g_iload (v := (-9)) cx dX2_readsOrder_149 rfl ?_
                    refine g_iload (v := tU L z (tS L z (tS L z p))) cx dX2_readsOrder_151 rfl ?_
                    refine g_iload (v := tU L z (tS L z (tS L z (tS L z p)))) cx dX2_readsOrder_153 rfl ?_
                    refine k_callv (ws' := wRd rd (td 0) lt ++ wTx V td L (nI z) (nI (tX L z (tS L z (tS L z (tS L z (tS L z (tS L z p))))).1)) (nI (tP L z (tS L z (tS L z (tS L z (tS L z (tS L z p))))).1)) (tK L z (tS L z (tS L z (tS L z (tS L z (tS L z p))))).1) (tV L z (tS L z (tS L z (tS L z (tS L z (tS L z p))))).1 (tS L z (tS L z (tS L z (tS L z (tS L z p))))).2) ++ wRing V dd (rAddOrder D (on D) (tK L z p.1) (tK L z (tS L z p).1) (-9) (tU L z (tS L z (tS L z p))) (tU L z (tS L z (tS L z (tS L z p)))))) (As := [.int (tK L z p.1), .int (tK L z (tS L z p).1), .int (-9), .int (tU L z (tS L z (tS L z p))), .int (tU L z (tS L z (tS L z (tS L z p))))]) (rest := []) cx (c_X3_addOrder V dd D (tK L z p.1) (tK L z (tS L z p).1) (-9) (tU L z (tS L z (tS L z p))) (tU L z (tS L z (tS L z (tS L z p)))) (on D) ho (lt4_of ⟨ho, ho4⟩ hC1.1)) ml_X2_89 dX2_readsOrder_155 [3, 4, 5, 6, 7, 8] rfl rfl [dd 0, dd 1, dd 2, dd 3, dd 4, dd 5] rfl rfl rfl 0 3 rfl rfl rfl rfl rfl (Nat.le_of_ble_eq_true rfl) ⟨Nat.le_of_ble_eq_true rfl, Nat.le_of_ble_eq_true rfl⟩ ⟨Nat.le_refl _, Nat.le_refl _⟩ ?_
                    refine g_iconst (v := 1) cx dX2_readsOrder_158 (by decide) ?_
                    exact hret _ _ _ _ dX2_readsOrder_159 (by first | rfl | exact rf_bnar) (⟨by rw [qOrder, if_neg (not_not_intro hC1), if_neg (not_not_intro hC2), if_pos hB, qOrd3, if_neg (not_not_intro hk5), if_neg (not_not_intro hk6), if_neg (not_not_intro hk7)]; rfl, by rw [qOrder, if_neg (not_not_intro hC1), if_neg (not_not_intro hC2), if_pos hB, qOrd3, if_neg (not_not_intro hk5), if_neg (not_not_intro hk6), if_neg (not_not_intro hk7)]⟩)
                  · skip
                    refine k_calli (r0 := 0) (ws' := wRd rd (td 0) lt ++ wTx V td L (nI z) (nI (tX L z (tS L z (tS L z (tS L z (tS L z p)))).1)) (nI (tP L z (tS L z (tS L z (tS L z (tS L z p)))).1)) (tK L z (tS L z (tS L z (tS L z (tS L z p)))).1) (tV L z (tS L z (tS L z (tS L z (tS L z p)))).1 (tS L z (tS L z (tS L z (tS L z p)))).2) ++ wRing V dd D) (As := []) (rest := []) cx (c_X2_takesEnd_no V rd td L z (tS L z (tS L z (tS L z (tS L z p)))) hz (tS_le (tS_le (tS_le (tS_le (hp))))) lt hk7) ml_X2_60 dX2_readsOrder_138 [0, 1, 2] rfl rfl [rd, td 0, td 1] rfl rfl rfl 0 2 rfl rfl rfl rfl rfl (Nat.le_of_ble_eq_true rfl) ⟨Nat.le_of_ble_eq_true rfl, Nat.le_of_ble_eq_true rfl⟩ ⟨Nat.le_refl _, Nat.le_refl _⟩ ?_
                    refine g_if_ne cx 146 dX2_readsOrder_141 (by decide) (fun hw7 => absurd (by decide) hw7) (fun hw7 => ?_)
                    refine g_iconst (v := 0) cx dX2_readsOrder_144 (by decide) ?_
                    exact hret _ _ _ _ dX2_readsOrder_145 (by first | rfl | exact rf_bnar) (⟨by rw [qOrder, if_neg (not_not_intro hC1), if_neg (not_not_intro hC2), if_pos hB, qOrd3, if_neg (not_not_intro hk5), if_neg (not_not_intro hk6), if_pos hk7]; rfl, by rw [qOrder, if_neg (not_not_intro hC1), if_neg (not_not_intro hC2), if_pos hB, qOrd3, if_neg (not_not_intro hk5), if_neg (not_not_intro hk6), if_pos hk7]⟩)
                · skip
                  refine k_calli (r0 := (-1)) (ws' := wRd rd (td 0) lt ++ wTx V td L (nI z) (nI (tX L z (tS L z (tS L z (tS L z p))).1)) (nI (tP L z (tS L z (tS L z (tS L z p))).1)) (tK L z (tS L z (tS L z (tS L z p))).1) (tV L z (tS L z (tS L z (tS L z p))).1 (tS L z (tS L z (tS L z p))).2) ++ wRing V dd D) (As := [.int 0, .int 255]) (rest := []) cx (c_X2_takeNumber_no V rd td L z (tS L z (tS L z (tS L z p))) hz (tS_le (tS_le (tS_le (hp)))) lt 0 255 hk6) ml_X2_56 dX2_readsOrder_126 [0, 1, 2] rfl rfl [rd, td 0, td 1] rfl rfl rfl 0 2 rfl rfl rfl rfl rfl (Nat.le_of_ble_eq_true rfl) ⟨Nat.le_of_ble_eq_true rfl, Nat.le_of_ble_eq_true rfl⟩ ⟨Nat.le_refl _, Nat.le_refl _⟩ ?_
                  refine g_istore (lv' := [(0, .ref rd), (1, .ref (dd 0)), (2, .int (tK L z p.1)), (3, .int (tK L z (tS L z p).1)), (4, .int (-9)), (5, .int (tU L z (tS L z (tS L z p)))), (6, .int (-1))]) cx dX2_readsOrder_129 (by decide) rfl ?_
                  refine g_iload (v := (-1)) cx dX2_readsOrder_131 rfl ?_
                  refine g_iconst (v := (-1)) cx dX2_readsOrder_133 (by decide) ?_
                  refine g_icmp_eq cx 144 dX2_readsOrder_134 (by decide) (fun hw8 => ?_) (fun hw8 => absurd (by decide) hw8)
                  refine g_iconst (v := 0) cx dX2_readsOrder_144 (by decide) ?_
                  exact hret _ _ _ _ dX2_readsOrder_145 (by first | rfl | exact rf_bnar) (⟨by rw [qOrder, if_neg (not_not_intro hC1), if_neg (not_not_intro hC2), if_pos hB, qOrd3, if_neg (not_not_intro hk5), if_pos hk6]; rfl, by rw [qOrder, if_neg (not_not_intro hC1), if_neg (not_not_intro hC2), if_pos hB, qOrd3, if_neg (not_not_intro hk5), if_pos hk6]⟩)
              · skip
                refine k_calli (r0 := (-1)) (ws' := wRd rd (td 0) lt ++ wTx V td L (nI z) (nI (tX L z (tS L z (tS L z p)).1)) (nI (tP L z (tS L z (tS L z p)).1)) (tK L z (tS L z (tS L z p)).1) (tV L z (tS L z (tS L z p)).1 (tS L z (tS L z p)).2) ++ wRing V dd D) (As := [.int 0, .int 3]) (rest := []) cx (c_X2_takeNumber_no V rd td L z (tS L z (tS L z p)) hz (tS_le (tS_le (hp))) lt 0 3 hk5) ml_X2_56 dX2_readsOrder_108 [0, 1, 2] rfl rfl [rd, td 0, td 1] rfl rfl rfl 0 2 rfl rfl rfl rfl rfl (Nat.le_of_ble_eq_true rfl) ⟨Nat.le_of_ble_eq_true rfl, Nat.le_of_ble_eq_true rfl⟩ ⟨Nat.le_refl _, Nat.le_refl _⟩ ?_
                refine g_istore (lv' := [(0, .ref rd), (1, .ref (dd 0)), (2, .int (tK L z p.1)), (3, .int (tK L z (tS L z p).1)), (4, .int (-9)), (5, .int (-1))]) cx dX2_readsOrder_111 (by decide) rfl ?_
                refine g_iload (v := (-1)) cx dX2_readsOrder_113 rfl ?_
                refine g_iconst (v := (-1)) cx dX2_readsOrder_115 (by decide) ?_
                refine g_icmp_ne cx 121 dX2_readsOrder_116 (by decide) (fun hw9 => absurd (by decide) hw9) (fun hw9 => ?_)
                refine g_iconst (v := 0) cx dX2_readsOrder_119 (by decide) ?_
                exact hret _ _ _ _ dX2_readsOrder_120 (by first | rfl | exact rf_bnar) (⟨by rw [qOrder, if_neg (not_not_intro hC1), if_neg (not_not_intro hC2), if_pos hB, qOrd3, if_pos hk5]; rfl, by rw [qOrder, if_neg (not_not_intro hC1), if_neg (not_not_intro hC2), if_pos hB, qOrd3, if_pos hk5]⟩)
            · skip
              refine g_icmp_ne cx 88 dX2_readsOrder_80 (by decide) (fun hw10 => ?_) (fun hw10 => absurd hw10 (hB))
              refine g_aload_n (v := rd) cx dX2_readsOrder_88 rfl ?_
              refine g_iconst (v := 0) cx dX2_readsOrder_89 (by decide) ?_
              refine g_bipush (v := 15) cx dX2_readsOrder_90 (by decide) ?_
              by_cases hk4 : tO L z (tS L z (tS L z p)) 0 15
              · skip
                refine k_calli (r0 := tU L z (tS L z (tS L z p))) (ws' := wRd rd (td 0) lt ++ wTx V td L (nI z) (nI (tX L z (tS L z (tS L z (tS L z p))).1)) (nI (tP L z (tS L z (tS L z (tS L z p))).1)) (tK L z (tS L z (tS L z (tS L z p))).1) (tV L z (tS L z (tS L z (tS L z p))).1 (tS L z (tS L z (tS L z p))).2) ++ wRing V dd D) (As := [.int 0, .int 15]) (rest := []) cx (c_X2_takeNumber_ok V rd td L z (tS L z (tS L z p)) hz (tS_le (tS_le (hp))) lt 0 15 hk4) ml_X2_56 dX2_readsOrder_92 [0, 1, 2] rfl rfl [rd, td 0, td 1] rfl rfl rfl 0 2 rfl rfl rfl rfl rfl (Nat.le_of_ble_eq_true rfl) ⟨Nat.le_of_ble_eq_true rfl, Nat.le_of_ble_eq_true rfl⟩ ⟨Nat.le_refl _, Nat.le_refl _⟩ ?_
                refine g_istore (lv' := [(0, .ref rd), (1, .ref (dd 0)), (2, .int (tK L z p.1)), (3, .int (tK L z (tS L z p).1)), (4, .int (tU L z (tS L z (tS L z p))))]) cx dX2_readsOrder_95 (by decide) rfl ?_
                refine g_iload (v := tU L z (tS L z (tS L z p))) cx dX2_readsOrder_97 rfl ?_
                refine g_iconst (v := (-1)) cx dX2_readsOrder_99 (by decide) ?_
                refine g_icmp_ne cx 105 dX2_readsOrder_100 (by decide) (fun hw11 => ?_) (fun hw11 => absurd hw11 (tO_ne hk4 (by decide)))
                refine g_aload_n (v := rd) cx dX2_readsOrder_105 rfl ?_
                refine g_iconst (v := 0) cx dX2_readsOrder_106 (by decide) ?_
                refine g_iconst (v := 3) cx dX2_readsOrder_107 (by decide) ?_
                by_cases hk5 : tO L z (tS L z (tS L z (tS L z p))) 0 3
                · skip
                  refine k_calli (r0 := tU L z (tS L z (tS L z (tS L z p)))) (ws' := wRd rd (td 0) lt ++ wTx V td L (nI z) (nI (tX L z (tS L z (tS L z (tS L z (tS L z p)))).1)) (nI (tP L z (tS L z (tS L z (tS L z (tS L z p)))).1)) (tK L z (tS L z (tS L z (tS L z (tS L z p)))).1) (tV L z (tS L z (tS L z (tS L z (tS L z p)))).1 (tS L z (tS L z (tS L z (tS L z p)))).2) ++ wRing V dd D) (As := [.int 0, .int 3]) (rest := []) cx (c_X2_takeNumber_ok V rd td L z (tS L z (tS L z (tS L z p))) hz (tS_le (tS_le (tS_le (hp)))) lt 0 3 hk5) ml_X2_56 dX2_readsOrder_108 [0, 1, 2] rfl rfl [rd, td 0, td 1] rfl rfl rfl 0 2 rfl rfl rfl rfl rfl (Nat.le_of_ble_eq_true rfl) ⟨Nat.le_of_ble_eq_true rfl, Nat.le_of_ble_eq_true rfl⟩ ⟨Nat.le_refl _, Nat.le_refl _⟩ ?_
                  refine g_istore (lv' := [(0, .ref rd), (1, .ref (dd 0)), (2, .int (tK L z p.1)), (3, .int (tK L z (tS L z p).1)), (4, .int (tU L z (tS L z (tS L z p)))), (5, .int (tU L z (tS L z (tS L z (tS L z p)))))]) cx dX2_readsOrder_111 (by decide) rfl ?_
                  refine g_iload (v := tU L z (tS L z (tS L z (tS L z p)))) cx dX2_readsOrder_113 rfl ?_
                  refine g_iconst (v := (-1)) cx dX2_readsOrder_115 (by decide) ?_
                  refine g_icmp_ne cx 121 dX2_readsOrder_116 (by decide) (fun hw12 => ?_) (fun hw12 => absurd hw12 (tO_ne hk5 (by decide)))
                  refine g_aload_n (v := rd) cx dX2_readsOrder_121 rfl ?_
                  refine g_iconst (v := 0) cx dX2_readsOrder_122 (by decide) ?_
                  refine g_sipush (v := 255) cx dX2_readsOrder_123 (by decide) ?_
                  by_cases hk6 : tO L z (tS L z (tS L z (tS L z (tS L z p)))) 0 255
                  · skip
                    refine k_calli (r0 := tU L z (tS L z (tS L z (tS L z (tS L z p))))) (ws' := wRd rd (td 0) lt ++ wTx V td L (nI z) (nI (tX L z (tS L z (tS L z (tS L z (tS L z (tS L z p))))).1)) (nI (tP L z (tS L z (tS L z (tS L z (tS L z (tS L z p))))).1)) (tK L z (tS L z (tS L z (tS L z (tS L z (tS L z p))))).1) (tV L z (tS L z (tS L z (tS L z (tS L z (tS L z p))))).1 (tS L z (tS L z (tS L z (tS L z (tS L z p))))).2) ++ wRing V dd D) (As := [.int 0, .int 255]) (rest := []) cx (c_X2_takeNumber_ok V rd td L z (tS L z (tS L z (tS L z (tS L z p)))) hz (tS_le (tS_le (tS_le (tS_le (hp))))) lt 0 255 hk6) ml_X2_56 dX2_readsOrder_126 [0, 1, 2] rfl rfl [rd, td 0, td 1] rfl rfl rfl 0 2 rfl rfl rfl rfl rfl (Nat.le_of_ble_eq_true rfl) ⟨Nat.le_of_ble_eq_true rfl, Nat.le_of_ble_eq_true rfl⟩ ⟨Nat.le_refl _, Nat.le_refl _⟩ ?_
                    refine g_istore (lv' := [(0, .ref rd), (1, .ref (dd 0)), (2, .int (tK L z p.1)), (3, .int (tK L z (tS L z p).1)), (4, .int (tU L z (tS L z (tS L z p)))), (5, .int (tU L z (tS L z (tS L z (tS L z p))))), (6, .int (tU L z (tS L z (tS L z (tS L z (tS L z p))))))]) cx dX2_readsOrder_129 (by decide) rfl ?_
                    refine g_iload (v := tU L z (tS L z (tS L z (tS L z (tS L z p))))) cx dX2_readsOrder_131 rfl ?_
                    refine g_iconst (v := (-1)) cx dX2_readsOrder_133 (by decide) ?_
                    refine g_icmp_eq cx 144 dX2_readsOrder_134 (by decide) (fun hw13 => absurd hw13 (tO_ne hk6 (by decide))) (fun hw13 => ?_)
                    refine g_aload_n (v := rd) cx dX2_readsOrder_137 rfl ?_
                    by_cases hk7 : tK L z (tS L z (tS L z (tS L z (tS L z (tS L z p))))).1 = 59
                    · skip
                      refine k_calli (r0 := 1) (ws' := wRd rd (td 0) lt ++ wTx V td L (nI z) (nI (tX L z (tS L z (tS L z (tS L z (tS L z (tS L z (tS L z p)))))).1)) (nI (tP L z (tS L z (tS L z (tS L z (tS L z (tS L z (tS L z p)))))).1)) (tK L z (tS L z (tS L z (tS L z (tS L z (tS L z (tS L z p)))))).1) (tV L z (tS L z (tS L z (tS L z (tS L z (tS L z (tS L z p)))))).1 (tS L z (tS L z (tS L z (tS L z (tS L z (tS L z p)))))).2) ++ wRing V dd D) (As := []) (rest := []) cx (c_X2_takesEnd_ok V rd td L z (tS L z (tS L z (tS L z (tS L z (tS L z p))))) hz (tS_le (tS_le (tS_le (tS_le (tS_le (hp)))))) lt hk7) ml_X2_60 dX2_readsOrder_138 [0, 1, 2] rfl rfl [rd, td 0, td 1] rfl rfl rfl 0 2 rfl rfl rfl rfl rfl (Nat.le_of_ble_eq_true rfl) ⟨Nat.le_of_ble_eq_true rfl, Nat.le_of_ble_eq_true rfl⟩ ⟨Nat.le_refl _, Nat.le_refl _⟩ ?_
                      refine g_if_ne cx 146 dX2_readsOrder_141 (by decide) (fun hw14 => ?_) (fun hw14 => absurd hw14 (by decide))
                      refine g_aload_n (v := dd 0) cx dX2_readsOrder_146 rfl ?_
                      refine g_iload_n (v := tK L z p.1) cx dX2_readsOrder_147 rfl ?_
                      refine g_iload_n (v := tK L z (tS L z p).1) cx dX2_readsOrder_148 rfl ?_
                      refine g_iload (v := tU L z (tS L z (tS L z p))) cx dX2_readsOrder_149 rfl ?_
                      refine g_iload (v := tU L z (tS L z (tS L z (tS L z p)))) cx dX2_readsOrder_151 rfl ?_
                      refine g_iload (v := tU L z (tS L z (tS L z (tS L z (tS L z p))))) cx dX2_readsOrder_153 rfl ?_
                      refine k_callv (ws' := wRd rd (td 0) lt ++ wTx V td L (nI z) (nI (tX L z (tS L z (tS L z (tS L z (tS L z (tS L z (tS L z p)))))).1)) (nI (tP L z (tS L z (tS L z (tS L z (tS L z (tS L z (tS L z p)))))).1)) (tK L z (tS L z (tS L z (tS L z (tS L z (tS L z (tS L z p)))))).1) (tV L z (tS L z (tS L z (tS L z (tS L z (tS L z (tS L z p)))))).1 (tS L z (tS L z (tS L z (tS L z (tS L z (tS L z p)))))).2) ++ wRing V dd (rAddOrder D (on D) (tK L z p.1) (tK L z (tS L z p).1) (tU L z (tS L z (tS L z p))) (tU L z (tS L z (tS L z (tS L z p)))) (tU L z (tS L z (tS L z (tS L z (tS L z p))))))) (As := [.int (tK L z p.1), .int (tK L z (tS L z p).1), .int (tU L z (tS L z (tS L z p))), .int (tU L z (tS L z (tS L z (tS L z p)))), .int (tU L z (tS L z (tS L z (tS L z (tS L z p)))))]) (rest := []) cx (c_X3_addOrder V dd D (tK L z p.1) (tK L z (tS L z p).1) (tU L z (tS L z (tS L z p))) (tU L z (tS L z (tS L z (tS L z p)))) (tU L z (tS L z (tS L z (tS L z (tS L z p))))) (on D) ho (lt4_of ⟨ho, ho4⟩ hC1.1)) ml_X2_89 dX2_readsOrder_155 [3, 4, 5, 6, 7, 8] rfl rfl [dd 0, dd 1, dd 2, dd 3, dd 4, dd 5] rfl rfl rfl 0 3 rfl rfl rfl rfl rfl (Nat.le_of_ble_eq_true rfl) ⟨Nat.le_of_ble_eq_true rfl, Nat.le_of_ble_eq_true rfl⟩ ⟨Nat.le_refl _, Nat.le_refl _⟩ ?_
                      refine g_iconst (v := 1) cx dX2_readsOrder_158 (by decide) ?_
                      exact hret _ _ _ _ dX2_readsOrder_159 (by first | rfl | exact rf_bnar) (⟨by rw [qOrder, if_neg (not_not_intro hC1), if_neg (not_not_intro hC2), if_neg hB, if_neg (not_not_intro hk4), qOrd3, if_neg (not_not_intro hk5), if_neg (not_not_intro hk6), if_neg (not_not_intro hk7)]; rfl, by rw [qOrder, if_neg (not_not_intro hC1), if_neg (not_not_intro hC2), if_neg hB, if_neg (not_not_intro hk4), qOrd3, if_neg (not_not_intro hk5), if_neg (not_not_intro hk6), if_neg (not_not_intro hk7)]⟩)
                    · skip
                      refine k_calli (r0 := 0) (ws' := wRd rd (td 0) lt ++ wTx V td L (nI z) (nI (tX L z (tS L z (tS L z (tS L z (tS L z (tS L z p))))).1)) (nI (tP L z (tS L z (tS L z (tS L z (tS L z (tS L z p))))).1)) (tK L z (tS L z (tS L z (tS L z (tS L z (tS L z p))))).1) (tV L z (tS L z (tS L z (tS L z (tS L z (tS L z p))))).1 (tS L z (tS L z (tS L z (tS L z (tS L z p))))).2) ++ wRing V dd D) (As := []) (rest := []) cx (c_X2_takesEnd_no V rd td L z (tS L z (tS L z (tS L z (tS L z (tS L z p))))) hz (tS_le (tS_le (tS_le (tS_le (tS_le (hp)))))) lt hk7) ml_X2_60 dX2_readsOrder_138 [0, 1, 2] rfl rfl [rd, td 0, td 1] rfl rfl rfl 0 2 rfl rfl rfl rfl rfl (Nat.le_of_ble_eq_true rfl) ⟨Nat.le_of_ble_eq_true rfl, Nat.le_of_ble_eq_true rfl⟩ ⟨Nat.le_refl _, Nat.le_refl _⟩ ?_
                      refine g_if_ne cx 146 dX2_readsOrder_141 (by decide) (fun hw15 => absurd (by decide) hw15) (fun hw15 => ?_)
                      refine g_iconst (v := 0) cx dX2_readsOrder_144 (by decide) ?_
                      exact hret _ _ _ _ dX2_readsOrder_145 (by first | rfl | exact rf_bnar) (⟨by rw [qOrder, if_neg (not_not_intro hC1), if_neg (not_not_intro hC2), if_neg hB, if_neg (not_not_intro hk4), qOrd3, if_neg (not_not_intro hk5), if_neg (not_not_intro hk6), if_pos hk7]; rfl, by rw [qOrder, if_neg (not_not_intro hC1), if_neg (not_not_intro hC2), if_neg hB, if_neg (not_not_intro hk4), qOrd3, if_neg (not_not_intro hk5), if_neg (not_not_intro hk6), if_pos hk7]⟩)
                  · skip
                    refine k_calli (r0 := (-1)) (ws' := wRd rd (td 0) lt ++ wTx V td L (nI z) (nI (tX L z (tS L z (tS L z (tS L z (tS L z p)))).1)) (nI (tP L z (tS L z (tS L z (tS L z (tS L z p)))).1)) (tK L z (tS L z (tS L z (tS L z (tS L z p)))).1) (tV L z (tS L z (tS L z (tS L z (tS L z p)))).1 (tS L z (tS L z (tS L z (tS L z p)))).2) ++ wRing V dd D) (As := [.int 0, .int 255]) (rest := []) cx (c_X2_takeNumber_no V rd td L z (tS L z (tS L z (tS L z (tS L z p)))) hz (tS_le (tS_le (tS_le (tS_le (hp))))) lt 0 255 hk6) ml_X2_56 dX2_readsOrder_126 [0, 1, 2] rfl rfl [rd, td 0, td 1] rfl rfl rfl 0 2 rfl rfl rfl rfl rfl (Nat.le_of_ble_eq_true rfl) ⟨Nat.le_of_ble_eq_true rfl, Nat.le_of_ble_eq_true rfl⟩ ⟨Nat.le_refl _, Nat.le_refl _⟩ ?_
                    refine g_istore (lv' := [(0, .ref rd), (1, .ref (dd 0)), (2, .int (tK L z p.1)), (3, .int (tK L z (tS L z p).1)), (4, .int (tU L z (tS L z (tS L z p)))), (5, .int (tU L z (tS L z (tS L z (tS L z p))))), (6, .int (-1))]) cx dX2_readsOrder_129 (by decide) rfl ?_
                    refine g_iload (v := (-1)) cx dX2_readsOrder_131 rfl ?_
                    refine g_iconst (v := (-1)) cx dX2_readsOrder_133 (by decide) ?_
                    refine g_icmp_eq cx 144 dX2_readsOrder_134 (by decide) (fun hw16 => ?_) (fun hw16 => absurd (by decide) hw16)
                    refine g_iconst (v := 0) cx dX2_readsOrder_144 (by decide) ?_
                    exact hret _ _ _ _ dX2_readsOrder_145 (by first | rfl | exact rf_bnar) (⟨by rw [qOrder, if_neg (not_not_intro hC1), if_neg (not_not_intro hC2), if_neg hB, if_neg (not_not_intro hk4), qOrd3, if_neg (not_not_intro hk5), if_pos hk6]; rfl, by rw [qOrder, if_neg (not_not_intro hC1), if_neg (not_not_intro hC2), if_neg hB, if_neg (not_not_intro hk4), qOrd3, if_neg (not_not_intro hk5), if_pos hk6]⟩)
                · skip
                  refine k_calli (r0 := (-1)) (ws' := wRd rd (td 0) lt ++ wTx V td L (nI z) (nI (tX L z (tS L z (tS L z (tS L z p))).1)) (nI (tP L z (tS L z (tS L z (tS L z p))).1)) (tK L z (tS L z (tS L z (tS L z p))).1) (tV L z (tS L z (tS L z (tS L z p))).1 (tS L z (tS L z (tS L z p))).2) ++ wRing V dd D) (As := [.int 0, .int 3]) (rest := []) cx (c_X2_takeNumber_no V rd td L z (tS L z (tS L z (tS L z p))) hz (tS_le (tS_le (tS_le (hp)))) lt 0 3 hk5) ml_X2_56 dX2_readsOrder_108 [0, 1, 2] rfl rfl [rd, td 0, td 1] rfl rfl rfl 0 2 rfl rfl rfl rfl rfl (Nat.le_of_ble_eq_true rfl) ⟨Nat.le_of_ble_eq_true rfl, Nat.le_of_ble_eq_true rfl⟩ ⟨Nat.le_refl _, Nat.le_refl _⟩ ?_
                  refine g_istore (lv' := [(0, .ref rd), (1, .ref (dd 0)), (2, .int (tK L z p.1)), (3, .int (tK L z (tS L z p).1)), (4, .int (tU L z (tS L z (tS L z p)))), (5, .int (-1))]) cx dX2_readsOrder_111 (by decide) rfl ?_
                  refine g_iload (v := (-1)) cx dX2_readsOrder_113 rfl ?_
                  refine g_iconst (v := (-1)) cx dX2_readsOrder_115 (by decide) ?_
                  refine g_icmp_ne cx 121 dX2_readsOrder_116 (by decide) (fun hw17 => absurd (by decide) hw17) (fun hw17 => ?_)
                  refine g_iconst (v := 0) cx dX2_readsOrder_119 (by decide) ?_
                  exact hret _ _ _ _ dX2_readsOrder_120 (by first | rfl | exact rf_bnar) (⟨by rw [qOrder, if_neg (not_not_intro hC1), if_neg (not_not_intro hC2), if_neg hB, if_neg (not_not_intro hk4), qOrd3, if_pos hk5]; rfl, by rw [qOrder, if_neg (not_not_intro hC1), if_neg (not_not_intro hC2), if_neg hB, if_neg (not_not_intro hk4), qOrd3, if_pos hk5]⟩)
              · skip
                refine k_calli (r0 := (-1)) (ws' := wRd rd (td 0) lt ++ wTx V td L (nI z) (nI (tX L z (tS L z (tS L z p)).1)) (nI (tP L z (tS L z (tS L z p)).1)) (tK L z (tS L z (tS L z p)).1) (tV L z (tS L z (tS L z p)).1 (tS L z (tS L z p)).2) ++ wRing V dd D) (As := [.int 0, .int 15]) (rest := []) cx (c_X2_takeNumber_no V rd td L z (tS L z (tS L z p)) hz (tS_le (tS_le (hp))) lt 0 15 hk4) ml_X2_56 dX2_readsOrder_92 [0, 1, 2] rfl rfl [rd, td 0, td 1] rfl rfl rfl 0 2 rfl rfl rfl rfl rfl (Nat.le_of_ble_eq_true rfl) ⟨Nat.le_of_ble_eq_true rfl, Nat.le_of_ble_eq_true rfl⟩ ⟨Nat.le_refl _, Nat.le_refl _⟩ ?_
                refine g_istore (lv' := [(0, .ref rd), (1, .ref (dd 0)), (2, .int (tK L z p.1)), (3, .int (tK L z (tS L z p).1)), (4, .int (-1))]) cx dX2_readsOrder_95 (by decide) rfl ?_
                refine g_iload (v := (-1)) cx dX2_readsOrder_97 rfl ?_
                refine g_iconst (v := (-1)) cx dX2_readsOrder_99 (by decide) ?_
                refine g_icmp_ne cx 105 dX2_readsOrder_100 (by decide) (fun hw18 => absurd (by decide) hw18) (fun hw18 => ?_)
                refine g_iconst (v := 0) cx dX2_readsOrder_103 (by decide) ?_
                exact hret _ _ _ _ dX2_readsOrder_104 (by first | rfl | exact rf_bnar) (⟨by rw [qOrder, if_neg (not_not_intro hC1), if_neg (not_not_intro hC2), if_neg hB, if_pos hk4]; rfl, by rw [qOrder, if_neg (not_not_intro hC1), if_neg (not_not_intro hC2), if_neg hB, if_pos hk4]⟩)
          rcases hC2 with e | e | e
          · skip
            refine g_iload_n (v := tK L z (tS L z p).1) cx dX2_readsOrder_50 rfl ?_
            refine g_bipush (v := 112) cx dX2_readsOrder_51 (by decide) ?_
            refine g_icmp_eq cx 70 dX2_readsOrder_53 (by decide) (fun hw19 => ?_) (fun hw19 => absurd (e) hw19)
            exact h70
          · skip
            refine g_iload_n (v := tK L z (tS L z p).1) cx dX2_readsOrder_50 rfl ?_
            refine g_bipush (v := 112) cx dX2_readsOrder_51 (by decide) ?_
            refine g_icmp_eq cx 70 dX2_readsOrder_53 (by decide) (fun hw20 => absurd hw20 (by rw [e]; decide)) (fun hw20 => ?_)
            refine g_iload_n (v := tK L z (tS L z p).1) cx dX2_readsOrder_56 rfl ?_
            refine g_bipush (v := 115) cx dX2_readsOrder_57 (by decide) ?_
            refine g_icmp_eq cx 70 dX2_readsOrder_59 (by decide) (fun hw21 => ?_) (fun hw21 => absurd (e) hw21)
            exact h70
          · skip
            refine g_iload_n (v := tK L z (tS L z p).1) cx dX2_readsOrder_50 rfl ?_
            refine g_bipush (v := 112) cx dX2_readsOrder_51 (by decide) ?_
            refine g_icmp_eq cx 70 dX2_readsOrder_53 (by decide) (fun hw22 => absurd hw22 (by rw [e]; decide)) (fun hw22 => ?_)
            refine g_iload_n (v := tK L z (tS L z p).1) cx dX2_readsOrder_56 rfl ?_
            refine g_bipush (v := 115) cx dX2_readsOrder_57 (by decide) ?_
            refine g_icmp_eq cx 70 dX2_readsOrder_59 (by decide) (fun hw23 => absurd hw23 (by rw [e]; decide)) (fun hw23 => ?_)
            refine g_iload_n (v := tK L z (tS L z p).1) cx dX2_readsOrder_62 rfl ?_
            refine g_bipush (v := 98) cx dX2_readsOrder_63 (by decide) ?_
            refine g_icmp_eq cx 70 dX2_readsOrder_65 (by decide) (fun hw24 => ?_) (fun hw24 => absurd (e) hw24)
            exact h70
        · skip
          refine g_iload_n (v := tK L z (tS L z p).1) cx dX2_readsOrder_50 rfl ?_
          refine g_bipush (v := 112) cx dX2_readsOrder_51 (by decide) ?_
          refine g_icmp_eq cx 70 dX2_readsOrder_53 (by decide) (fun hw25 => absurd hw25 (fun e => hC2 (Or.inl e))) (fun hw25 => ?_)
          refine g_iload_n (v := tK L z (tS L z p).1) cx dX2_readsOrder_56 rfl ?_
          refine g_bipush (v := 115) cx dX2_readsOrder_57 (by decide) ?_
          refine g_icmp_eq cx 70 dX2_readsOrder_59 (by decide) (fun hw26 => absurd hw26 (fun e => hC2 (Or.inr (Or.inl e)))) (fun hw26 => ?_)
          refine g_iload_n (v := tK L z (tS L z p).1) cx dX2_readsOrder_62 rfl ?_
          refine g_bipush (v := 98) cx dX2_readsOrder_63 (by decide) ?_
          refine g_icmp_eq cx 70 dX2_readsOrder_65 (by decide) (fun hw27 => absurd hw27 (fun e => hC2 (Or.inr (Or.inr e)))) (fun hw27 => ?_)
          refine g_iconst (v := 0) cx dX2_readsOrder_68 (by decide) ?_
          exact hret _ _ _ _ dX2_readsOrder_69 (by first | rfl | exact rf_bnar) (⟨by rw [qOrder, if_neg (not_not_intro hC1), if_pos hC2]; rfl, by rw [qOrder, if_neg (not_not_intro hC1), if_pos hC2]⟩)
      rcases hR with e | e | e
      · skip
        refine g_iload_n (v := tK L z p.1) cx dX2_readsOrder_15 rfl ?_
        refine g_bipush (v := 114) cx dX2_readsOrder_16 (by decide) ?_
        refine g_icmp_eq cx 35 dX2_readsOrder_18 (by decide) (fun hw28 => ?_) (fun hw28 => absurd (e) hw28)
        exact h35
      · skip
        refine g_iload_n (v := tK L z p.1) cx dX2_readsOrder_15 rfl ?_
        refine g_bipush (v := 114) cx dX2_readsOrder_16 (by decide) ?_
        refine g_icmp_eq cx 35 dX2_readsOrder_18 (by decide) (fun hw29 => absurd hw29 (by rw [e]; decide)) (fun hw29 => ?_)
        refine g_iload_n (v := tK L z p.1) cx dX2_readsOrder_21 rfl ?_
        refine g_bipush (v := 119) cx dX2_readsOrder_22 (by decide) ?_
        refine g_icmp_eq cx 35 dX2_readsOrder_24 (by decide) (fun hw30 => ?_) (fun hw30 => absurd (e) hw30)
        exact h35
      · skip
        refine g_iload_n (v := tK L z p.1) cx dX2_readsOrder_15 rfl ?_
        refine g_bipush (v := 114) cx dX2_readsOrder_16 (by decide) ?_
        refine g_icmp_eq cx 35 dX2_readsOrder_18 (by decide) (fun hw31 => absurd hw31 (by rw [e]; decide)) (fun hw31 => ?_)
        refine g_iload_n (v := tK L z p.1) cx dX2_readsOrder_21 rfl ?_
        refine g_bipush (v := 119) cx dX2_readsOrder_22 (by decide) ?_
        refine g_icmp_eq cx 35 dX2_readsOrder_24 (by decide) (fun hw32 => absurd hw32 (by rw [e]; decide)) (fun hw32 => ?_)
        refine g_iload_n (v := tK L z p.1) cx dX2_readsOrder_27 rfl ?_
        refine g_bipush (v := 120) cx dX2_readsOrder_28 (by decide) ?_
        refine g_icmp_eq cx 35 dX2_readsOrder_30 (by decide) (fun hw33 => ?_) (fun hw33 => absurd (e) hw33)
        exact h35
    · have hC1 : ¬ (¬ 4 ≤ D 5 1 ∧ qRwx (tK L z p.1)) := fun h => hR h.2
      refine g_iload_n (v := tK L z p.1) cx dX2_readsOrder_15 rfl ?_
      refine g_bipush (v := 114) cx dX2_readsOrder_16 (by decide) ?_
      refine g_icmp_eq cx 35 dX2_readsOrder_18 (by decide) (fun hw34 => absurd hw34 (fun e => hR (Or.inl e))) (fun hw34 => ?_)
      refine g_iload_n (v := tK L z p.1) cx dX2_readsOrder_21 rfl ?_
      refine g_bipush (v := 119) cx dX2_readsOrder_22 (by decide) ?_
      refine g_icmp_eq cx 35 dX2_readsOrder_24 (by decide) (fun hw35 => absurd hw35 (fun e => hR (Or.inr (Or.inl e)))) (fun hw35 => ?_)
      refine g_iload_n (v := tK L z p.1) cx dX2_readsOrder_27 rfl ?_
      refine g_bipush (v := 120) cx dX2_readsOrder_28 (by decide) ?_
      refine g_icmp_eq cx 35 dX2_readsOrder_30 (by decide) (fun hw36 => absurd hw36 (fun e => hR (Or.inr (Or.inr e)))) (fun hw36 => ?_)
      refine g_iconst (v := 0) cx dX2_readsOrder_33 (by decide) ?_
      exact hret _ _ _ _ dX2_readsOrder_34 (by first | rfl | exact rf_bnar) (⟨by rw [qOrder, if_pos hC1]; rfl, by rw [qOrder, if_pos hC1]⟩)
def rm_X2_readsFrame : Room := { frames := 5, cells := 0, slots := 0, locals := 111 }
set_option maxRecDepth 100000 in
set_option maxHeartbeats 4000000 in
theorem c_X2_readsFrame (V : VT) (rd : Nat) (td : Nat → Nat) (L : Nat → Int32) (z : Nat) (hz : z ≤ 120) (lt b c d u : Int32) (dd : Nat → Nat) (D : S2) : CI V yX2_readsFrame cX2_readsFrame 3 .boolean rm_X2_readsFrame [.ref rd, .ref (dd 0)] (wRd rd (td 0) lt ++ wTx V td L (nI z) b c d u ++ wRing V dd D) (fun r_ w_ => r_ = bI ((qFrame L z 120 (rDrop D) (0, u)).1 = true) ∧ w_ = wRd rd (td 0) lt ++ wTx V td L (nI z) (nI (tX L z ((qFrame L z 120 (rDrop D) (0, u)).2.2).1)) (nI (tP L z ((qFrame L z 120 (rDrop D) (0, u)).2.2).1)) (tK L z ((qFrame L z 120 (rDrop D) (0, u)).2.2).1) (tV L z ((qFrame L z 120 (rDrop D) (0, u)).2.2).1 ((qFrame L z 120 (rDrop D) (0, u)).2.2).2) ++ wRing V dd ((qFrame L z 120 (rDrop D) (0, u)).2.1)) := by
  refine CI_intro (by decide) (Nat.le_of_ble_eq_true rfl) (fun K cx hret => ?_)
  show G V K 3 0 0 (wRd rd (td 0) lt ++ wTx V td L (nI z) b c d u ++ wRing V dd D) 0 [(0, .ref rd), (1, .ref (dd 0))] []
  refine g_aload_n (v := dd 0) cx dX2_readsFrame_0 rfl ?_
  refine k_callv (ws' := wRd rd (td 0) lt ++ wTx V td L (nI z) b c d u ++ wRing V dd (rDrop D)) (As := []) (rest := []) cx (c_X3_dropFrame V dd D) ml_X2_77 dX2_readsFrame_1 [3, 4, 5, 6, 7, 8] rfl rfl [dd 0, dd 1, dd 2, dd 3, dd 4, dd 5] rfl rfl rfl 0 3 rfl rfl rfl rfl rfl (Nat.le_of_ble_eq_true rfl) ⟨Nat.le_of_ble_eq_true rfl, Nat.le_of_ble_eq_true rfl⟩ ⟨Nat.le_refl _, Nat.le_refl _⟩ ?_
  refine g_aload_n (v := rd) cx dX2_readsFrame_4 rfl ?_
  refine g_get (v := .ref (td 0)) cx fk_X2_9 dX2_readsFrame_5 0 rfl rfl ?_
  refine k_callv (ws' := wRd rd (td 0) lt ++ wTx V td L (nI z) (nI (tX L z (0, u).1)) (nI (tP L z (0, u).1)) (tK L z (0, u).1) (tV L z (0, u).1 (0, u).2) ++ wRing V dd (rDrop D)) (As := []) (rest := []) cx (c_X7_begin V td L z b c d u hz) ml_X2_24 dX2_readsFrame_8 [1, 2] rfl rfl [td 0, td 1] rfl rfl rfl 0 7 rfl rfl rfl rfl rfl (Nat.le_of_ble_eq_true rfl) ⟨Nat.le_of_ble_eq_true rfl, Nat.le_of_ble_eq_true rfl⟩ ⟨Nat.le_refl _, Nat.le_refl _⟩ ?_
  refine g_iconst (v := 0) cx dX2_readsFrame_11 (by decide) ?_
  refine g_istore_n (lv' := [(0, .ref rd), (1, .ref (dd 0)), (2, .int 0)]) cx dX2_readsFrame_12 (by decide) rfl ?_
  generalize hRf : qFrame L z 120 (rDrop D) (0, u) = Rf at hret
  suffices hh : ∀ (f i : Nat) (D : S2) (p : Nat × Int32), i + f = 120 → okO D → p.1 ≤ z → qFrame L z f D p = Rf → G V K 3 0 0 (wRd rd (td 0) lt ++ wTx V td L (nI z) (nI (tX L z p.1)) (nI (tP L z p.1)) (tK L z p.1) (tV L z p.1 p.2) ++ wRing V dd D) 13 [(0, .ref rd), (1, .ref (dd 0)), (2, .int (nI i))] [] from hh 120 0 _ _ rfl (okO_of (n := 0) rfl (by decide)).1 (Nat.zero_le _) hRf
  clear hRf D
  intro f
  induction f with
  | zero =>
    intro i D p hi hD hp hq
    obtain ⟨ho, ho4⟩ := id hD
    refine g_iload_n (v := nI i) cx dX2_readsFrame_13 rfl ?_
    refine g_bipush (v := 120) cx dX2_readsFrame_14 (by decide) ?_
    refine g_icmp_ge cx 48 dX2_readsFrame_16 (by decide) (fun hw1 => ?_) (fun hw1 => absurd (rf_geMP rfl (nl 120) (by omega) (by omega) (by omega)) hw1)
    refine g_aload_n (v := dd 0) cx dX2_readsFrame_48 rfl ?_
    refine g_get (v := .int (D 5 1)) cx fk_X2_83 dX2_readsFrame_49 3 rfl rfl ?_
    refine g_if_le cx 59 dX2_readsFrame_52 (by decide) (fun hw2 => ?_) (fun hw2 => ?_)
    · skip
      refine g_iconst (v := 0) cx dX2_readsFrame_59 (by decide) ?_
      exact hret _ _ _ _ dX2_readsFrame_60 (by first | rfl | exact rf_bnar) (⟨by rw [← hq]; simp only [bI, qFrame, hw2, not_true_eq_false, not_false_eq_true, and_true, true_and, and_false, false_and, or_true, true_or, or_false, false_or, if_true, if_false, decide_true, decide_false, Bool.false_eq_true, decide_eq_true_eq], by rw [← hq]; rfl⟩)
    · skip
      refine g_iconst (v := 1) cx dX2_readsFrame_55 (by decide) ?_
      refine g_goto cx 60 dX2_readsFrame_56 (by decide) ?_
      exact hret _ _ _ _ dX2_readsFrame_60 (by first | rfl | exact rf_bnar) (⟨by rw [← hq]; simp only [bI, qFrame, hw2, not_true_eq_false, not_false_eq_true, and_true, true_and, and_false, false_and, or_true, true_or, or_false, false_or, if_true, if_false, decide_true, decide_false, Bool.false_eq_true, decide_eq_true_eq], by rw [← hq]; rfl⟩)
  | succ f ih =>
    intro i D p hi hD hp hq
    obtain ⟨ho, ho4⟩ := id hD
    simp only [qFrame] at hq
    refine g_iload_n (v := nI i) cx dX2_readsFrame_13 rfl ?_
    refine g_bipush (v := 120) cx dX2_readsFrame_14 (by decide) ?_
    refine g_icmp_ge cx 48 dX2_readsFrame_16 (by decide) (fun hw3 => absurd hw3 (rf_geMN rfl (nl 120) (by omega) (by omega) (by omega))) (fun hw3 => ?_)
    refine g_aload_n (v := rd) cx dX2_readsFrame_19 rfl ?_
    refine g_get (v := .ref (td 0)) cx fk_X2_9 dX2_readsFrame_20 0 rfl rfl ?_
    refine g_get (v := .int (tK L z p.1)) cx fk_X2_29 dX2_readsFrame_23 1 rfl rfl ?_
    refine g_sipush (v := 257) cx dX2_readsFrame_26 (by decide) ?_
    by_cases hk : tK L z p.1 = 257
    · skip
      refine g_icmp_eq cx 48 dX2_readsFrame_29 (by decide) (fun hw4 => ?_) (fun hw4 => absurd (hk) hw4)
      refine g_aload_n (v := dd 0) cx dX2_readsFrame_48 rfl ?_
      refine g_get (v := .int (D 5 1)) cx fk_X2_83 dX2_readsFrame_49 3 rfl rfl ?_
      refine g_if_le cx 59 dX2_readsFrame_52 (by decide) (fun hw5 => ?_) (fun hw5 => ?_)
      · skip
        refine g_iconst (v := 0) cx dX2_readsFrame_59 (by decide) ?_
        exact hret _ _ _ _ dX2_readsFrame_60 (by first | rfl | exact rf_bnar) (⟨by rw [← hq, if_pos hk]; simp only [bI, hw5, not_true_eq_false, not_false_eq_true, and_true, true_and, and_false, false_and, or_true, true_or, or_false, false_or, if_true, if_false, decide_true, decide_false, Bool.false_eq_true, decide_eq_true_eq], by rw [← hq, if_pos hk]⟩)
      · skip
        refine g_iconst (v := 1) cx dX2_readsFrame_55 (by decide) ?_
        refine g_goto cx 60 dX2_readsFrame_56 (by decide) ?_
        exact hret _ _ _ _ dX2_readsFrame_60 (by first | rfl | exact rf_bnar) (⟨by rw [← hq, if_pos hk]; simp only [bI, hw5, not_true_eq_false, not_false_eq_true, and_true, true_and, and_false, false_and, or_true, true_or, or_false, false_or, if_true, if_false, decide_true, decide_false, Bool.false_eq_true, decide_eq_true_eq], by rw [← hq, if_pos hk]⟩)
    · skip
      refine g_icmp_eq cx 48 dX2_readsFrame_29 (by decide) (fun hw6 => absurd hw6 (hk)) (fun hw6 => ?_)
      refine g_aload_n (v := rd) cx dX2_readsFrame_32 rfl ?_
      refine g_aload_n (v := dd 0) cx dX2_readsFrame_33 rfl ?_
      refine k_calli (r0 := bI ((qOrder L z D p).1 = true)) (ws' := wRd rd (td 0) lt ++ wTx V td L (nI z) (nI (tX L z ((qOrder L z D p).2.2).1)) (nI (tP L z ((qOrder L z D p).2.2).1)) (tK L z ((qOrder L z D p).2.2).1) (tV L z ((qOrder L z D p).2.2).1 ((qOrder L z D p).2.2).2) ++ wRing V dd ((qOrder L z D p).2.1)) (As := [.ref (dd 0)]) (rest := []) cx (c_X2_readsOrder V rd td L z p hz hp lt dd D ho ho4) ml_X2_80 dX2_readsFrame_34 [0, 1, 2, 3, 4, 5, 6, 7, 8] rfl rfl [rd, td 0, td 1, dd 0, dd 1, dd 2, dd 3, dd 4, dd 5] rfl rfl rfl 0 2 rfl rfl rfl rfl rfl (Nat.le_of_ble_eq_true rfl) ⟨Nat.le_of_ble_eq_true rfl, Nat.le_of_ble_eq_true rfl⟩ ⟨Nat.le_refl _, Nat.le_refl _⟩ ?_
      refine g_if_ne_b cx 42 dX2_readsFrame_37 (by decide) (fun hw7 => ?_) (fun hw7 => ?_)
      · skip
        refine g_iinc (x := nI i) (v := nI (i + 1)) (lv' := [(0, .ref rd), (1, .ref (dd 0)), (2, .int (nI (i + 1)))]) cx dX2_readsFrame_42 rfl (by decide) (nI_add _ _) rfl ?_
        refine g_goto cx 13 dX2_readsFrame_45 (by decide) ?_
        rw [if_neg hk, if_pos hw7] at hq
        exact ih (i + 1) _ _ (by omega) (qOrder_ok hp hD).1 (qOrder_ok hp hD).2 hq
      · skip
        refine g_iconst (v := 0) cx dX2_readsFrame_40 (by decide) ?_
        exact hret _ _ _ _ dX2_readsFrame_41 (by first | rfl | exact rf_bnar) (⟨by rw [← hq, if_neg hk, if_neg hw7]; rfl, by rw [← hq, if_neg hk, if_neg hw7]⟩)
