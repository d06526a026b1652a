/-! The law: its loop -/
theorem lw_one {V : VT} {K : KT} {nc ns b L t : Nat} {xs : Nat → Int32} {ad : Nat → Nat → Nat} {ad2 : Nat → Nat} {CW MW : va_W} (cx : Cx V K 4 cL_law RL room_1) (hX : CxL K b L xs) (hL : L ≤ 2048) (ht : 4 * t + 4 ≤ L) (hcs : nc ≤ room_1.cells ∧ ns ≤ room_1.slots) (hJ : JX V ad ad2 CW MW) (k : ∀ CW' MW', JX V ad ad2 CW' MW' → G V K 4 nc ns [CW', MW'].flatten 760 [(0, .ref b), (1, .ref (ad 12 6)), (2, .ref (ad2 0)), (3, .int (nI (4 * t)))] []) : G V K 4 nc ns [CW, MW].flatten 26 [(0, .ref b), (1, .ref (ad 12 6)), (2, .ref (ad2 0)), (3, .int (nI (4 * t)))] [] := by
  refine g_aload_n (v := b) cx dL_law_26 rfl ?_
  refine g_iload_n (v := nI (4 * t)) cx dL_law_27 rfl ?_
  refine g_sld (j := 4 * t) cx hX rfl (by omega) hL dL_law_28 ?_
  refine g_bipush (v := 31) cx dL_law_29 (by decide) ?_
  refine g_iand cx dL_law_31 ?_
  obtain ⟨j, hj, ej⟩ := pk_andE (xs (4 * t)) (m := 31) 5 (by decide)
  rw [ej]
  by_cases h26 : 26 ≤ j
  · refine g_tableOut cx 760 dL_law_32 (Or.inr ?_) (by decide) (k CW MW hJ)
    rw [nI_toInt (by omega)]; omega
  · rcases (by omega : j = 0 ∨ j = 1 ∨ j = 2 ∨ j = 3 ∨ j = 4 ∨ j = 5 ∨ j = 6 ∨ j = 7 ∨ j = 8 ∨ j = 9 ∨ j = 10 ∨ j = 11 ∨ j = 12 ∨ j = 13 ∨ j = 14 ∨ j = 15 ∨ j = 16 ∨ j = 17 ∨ j = 18 ∨ j = 19 ∨ j = 20 ∨ j = 21 ∨ j = 22 ∨ j = 23 ∨ j = 24 ∨ j = 25) with rfl | rfl | rfl | rfl | rfl | rfl | rfl | rfl | rfl | rfl | rfl | rfl | rfl | rfl | rfl | rfl | rfl | rfl | rfl | rfl | rfl | rfl | rfl | rfl | rfl | rfl
    · exact g_tableIn (off := 120) cx 152 dL_law_32 (by decide) (by decide) (by decide) (by decide) (lc_type cx hX hL ht hcs hJ k)
    · exact g_tableIn (off := 143) cx 175 dL_law_32 (by decide) (by decide) (by decide) (by decide) (lc_clear cx hX hL ht hcs hJ k)
    · exact g_tableIn (off := 156) cx 188 dL_law_32 (by decide) (by decide) (by decide) (by decide) (lc_wires cx hX hL ht hcs hJ k)
    · exact g_tableIn (off := 169) cx 201 dL_law_32 (by decide) (by decide) (by decide) (by decide) (lc_frames cx hX hL ht hcs hJ k)
    · exact g_tableIn (off := 182) cx 214 dL_law_32 (by decide) (by decide) (by decide) (by decide) (lc_cuts cx hX hL ht hcs hJ k)
    · exact g_tableIn (off := 205) cx 237 dL_law_32 (by decide) (by decide) (by decide) (by decide) (lc_heals cx hX hL ht hcs hJ k)
    · exact g_tableIn (off := 228) cx 260 dL_law_32 (by decide) (by decide) (by decide) (by decide) (lc_cycles cx hX hL ht hcs hJ k)
    · exact g_tableIn (off := 251) cx 283 dL_law_32 (by decide) (by decide) (by decide) (by decide) (lc_resets cx hX hL ht hcs hJ k)
    · exact g_tableIn (off := 274) cx 306 dL_law_32 (by decide) (by decide) (by decide) (by decide) (lc_sets cx hX hL ht hcs hJ k)
    · exact g_tableIn (off := 317) cx 349 dL_law_32 (by decide) (by decide) (by decide) (by decide) (lc_drifts cx hX hL ht hcs hJ k)
    · exact g_tableIn (off := 350) cx 382 dL_law_32 (by decide) (by decide) (by decide) (by decide) (lc_measures cx hX hL ht hcs hJ k)
    · exact g_tableIn (off := 363) cx 395 dL_law_32 (by decide) (by decide) (by decide) (by decide) (lc_undo cx hX hL ht hcs hJ k)
    · exact g_tableIn (off := 376) cx 408 dL_law_32 (by decide) (by decide) (by decide) (by decide) (lc_drive cx hX hL ht hcs hJ k)
    · exact g_tableIn (off := 409) cx 441 dL_law_32 (by decide) (by decide) (by decide) (by decide) (lc_link cx hX hL ht hcs hJ k)
    · exact g_tableIn (off := 442) cx 474 dL_law_32 (by decide) (by decide) (by decide) (by decide) (lc_order cx hX hL ht hcs hJ k)
    · exact g_tableIn (off := 475) cx 507 dL_law_32 (by decide) (by decide) (by decide) (by decide) (lc_result cx hX hL ht hcs hJ k)
    · exact g_tableIn (off := 508) cx 540 dL_law_32 (by decide) (by decide) (by decide) (by decide) (lc_time cx hX hL ht hcs hJ k)
    · exact g_tableIn (off := 531) cx 563 dL_law_32 (by decide) (by decide) (by decide) (by decide) (lc_reached cx hX hL ht hcs hJ k)
    · exact g_tableIn (off := 554) cx 586 dL_law_32 (by decide) (by decide) (by decide) (by decide) (lc_would cx hX hL ht hcs hJ k)
    · exact g_tableIn (off := 577) cx 609 dL_law_32 (by decide) (by decide) (by decide) (by decide) (lc_sees cx hX hL ht hcs hJ k)
    · exact g_tableIn (off := 610) cx 642 dL_law_32 (by decide) (by decide) (by decide) (by decide) (lc_forget cx hX hL ht hcs hJ k)
    · exact g_tableIn (off := 623) cx 655 dL_law_32 (by decide) (by decide) (by decide) (by decide) (lc_which cx hX hL ht hcs hJ k)
    · exact g_tableIn (off := 646) cx 678 dL_law_32 (by decide) (by decide) (by decide) (by decide) (lc_ask cx hX hL ht hcs hJ k)
    · exact g_tableIn (off := 659) cx 691 dL_law_32 (by decide) (by decide) (by decide) (by decide) (lc_keep cx hX hL ht hcs hJ k)
    · exact g_tableIn (off := 682) cx 714 dL_law_32 (by decide) (by decide) (by decide) (by decide) (lc_back cx hX hL ht hcs hJ k)
    · exact g_tableIn (off := 705) cx 737 dL_law_32 (by decide) (by decide) (by decide) (by decide) (lc_count cx hX hL ht hcs hJ k)
theorem law_loop {V : VT} {K : KT} {nc ns b L : Nat} {xs : Nat → Int32} {ad : Nat → Nat → Nat} {ad2 : Nat → Nat} {CW MW : va_W} (cx : Cx V K 4 cL_law RL room_1) (hX : CxL K b L xs) (hL : L ≤ 2048) (hcs : nc ≤ room_1.cells ∧ ns ≤ room_1.slots) (hret : ∀ (ws : va_W) (pc : Nat) (lv : List (Nat × Value)), decode cL_law pc = .ok (.ireturn, 1) → G V K 4 nc ns ws pc lv [.int 1]) (hJ : JX V ad ad2 CW MW) : G V K 4 nc ns [CW, MW].flatten 18 [(0, .ref b), (1, .ref (ad 12 6)), (2, .ref (ad2 0)), (3, .int (nI (4 * 0)))] [] := by
  have key : ∀ CW MW, JX V ad ad2 CW MW → G V K 4 nc ns [CW, MW].flatten 18 [(0, .ref b), (1, .ref (ad 12 6)), (2, .ref (ad2 0)), (3, .int (nI (4 * 0)))] [] := by
    have hi : ∀ t, t ≤ 2048 → (nI L - 4).toInt = (L : Int) - 4 ∧ (nI (4 * t)).toInt = ((4 * t : Nat) : Int) := fun t h => ⟨pk_sub_toInt (b := 4) (by omega) (by decide), nI_toInt (by omega)⟩
    have head : ∀ t, ∀ CW MW : va_W, t ≤ 2048 → (4 * t + 4 ≤ L → G V K 4 nc ns [CW, MW].flatten 26 [(0, .ref b), (1, .ref (ad 12 6)), (2, .ref (ad2 0)), (3, .int (nI (4 * t)))] []) → G V K 4 nc ns [CW, MW].flatten 18 [(0, .ref b), (1, .ref (ad 12 6)), (2, .ref (ad2 0)), (3, .int (nI (4 * t)))] [] := fun t CW MW h2 k => by
      obtain ⟨e1, e2⟩ := hi t h2
      refine g_iload_n (v := nI (4 * t)) cx dL_law_18 rfl ?_
      refine g_aload_n (v := b) cx dL_law_19 rfl ?_
      refine g_slen cx hX dL_law_20 ?_
      refine g_iconst (v := 4) cx dL_law_21 (by decide) ?_
      refine g_isub cx dL_law_22 ?_
      refine g_icmp_gt cx 766 dL_law_23 (by decide) (fun hg => ?_) (fun hg => k ?_)
      · refine g_iconst (v := 1) cx dL_law_766 (by decide) ?_
        exact hret _ _ _ dL_law_767
      · have := Int32.le_iff_toInt_le.mp (Int32.not_lt.mp hg)
        rw [e1, e2] at this
        omega
    refine rf_dn (P := fun t => ∀ CW MW, JX V ad ad2 CW MW → G V K 4 nc ns [CW, MW].flatten 18 [(0, .ref b), (1, .ref (ad 12 6)), (2, .ref (ad2 0)), (3, .int (nI (4 * t)))] []) 2048 (fun t ht ih CW MW hJ => ?_) (fun CW MW hJ => ?_)
    · refine head t CW MW (by omega) (fun hle => lw_one cx hX hL hle hcs hJ (fun CW' MW' hJ' => ?_))
      refine g_iinc (x := nI (4 * t)) (v := nI (4 * (t + 1))) (lv' := [(0, .ref b), (1, .ref (ad 12 6)), (2, .ref (ad2 0)), (3, .int (nI (4 * (t + 1))))]) cx dL_law_760 rfl (by decide) (nI_add _ _) rfl ?_
      exact g_goto cx 18 dL_law_763 (by decide) (ih CW' MW' hJ')
    · exact head 2048 CW MW (by omega) (fun hle => absurd hle (by omega))
  exact key CW MW hJ
