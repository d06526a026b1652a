/-! The law: its start -/
theorem RQ_ini : RQ rIni (brg (upd (upd (mBeg (fun _ => 0)) 0 1) 9 1) (fun _ => 0) 0 0 99) 1 0 1 0 := by
  have h := (WI_drive (a := 1) (b := 0) (WI_0 (fun _ _ => 0) (fun _ => 0)) (by decide) rfl).1
  refine RQ_row h (fun k hk => ?_)
  rw [brg_at, if_pos (by omega), show 0 + (k - 0) = k by omega]
  by_cases k0 : k = 0
  · subst k0
    rw [pk_un (by decide), pk_us, pk_us, pk_un (by decide), pk_un (by decide), mBeg_0]
    rfl
  · by_cases k9 : k = 9
    · subst k9
      rw [pk_us, pk_un (by decide), pk_un (by decide), pk_us]
    · rw [pk_un k9, pk_un k0, pk_un k0]
      by_cases k17 : k = 17
      · subst k17
        rw [pk_us, mBeg_at _ (by decide)]; rfl
      · rw [pk_un (by omega), pk_un (by omega)]
theorem IV_ini : IV rIni rIni rIni (fun _ => rIni) (fun _ => 0) 0 0 0 (fun _ => 0) (fun _ _ => 0) (brg (upd (upd (mBeg (fun _ => 0)) 0 1) 9 1) (fun _ => 0) 0 0 99) (fun _ => 0) (fun _ => 0) (fun _ => 0) (fun _ => 0) 0 1 0 1 0 := by
  have b := RQ_ini.okB
  refine ⟨⟨RQ_ini, by decide, by show ¬ (3 : Int32) < 1; decide⟩, ⟨by decide, okL_0⟩, ⟨by decide, by decide, fun j hj => absurd hj (Nat.not_lt_zero j), fun _ _ => b⟩, ⟨b, b, ⟨rfl, rfl⟩, fun h => absurd rfl h, fun h => absurd rfl h⟩, rfl, by decide, fun i hi => absurd hi (Nat.not_lt_zero i)⟩
set_option maxRecDepth 100000 in
set_option maxHeartbeats 4000000 in
/-- from the entry to the loop, over the judgement G -/
theorem law_enter {V : VT} {K : KT} {b L : Nat} {xs : Nat → Int32} (cx : Cx V K 4 cL_law RL room_1) (hX : CxL K b L xs) (hL : L ≤ 2048) (hret : ∀ (ws : va_W) (pc : Nat) (lv : List (Nat × Value)), decode cL_law pc = .ok (.ireturn, 1) → G V K 4 600000 7302250 ws pc lv [.int 1]) : G V K 4 0 0 [] 0 [(0, .ref b)] [] := by
  refine g_new (ws := []) (ci := 8) (fs := [.null, .null, .null, .null, .null, .null, .null, .null, .null, .null, .null]) cx tyX8 tyX8_ok i_X8 kw_L_7 nw_X8 zw_X8 rfl (fun j hj => match j, hj with | 0, _ => rfl | 1, _ => rfl | 2, _ => rfl | 3, _ => rfl | 4, _ => rfl | 5, _ => rfl | 6, _ => rfl | 7, _ => rfl | 8, _ => rfl | 9, _ => rfl | 10, _ => rfl | _ + 11, h => absurd h (by omega)) dL_law_0 ⟨Nat.le_of_ble_eq_true rfl, Nat.le_of_ble_eq_true rfl⟩ (fun q1 => ?_)
  refine g_dup cx dL_law_3 rfl ?_
  refine g_initv (rest := [.ref q1]) (As := []) cx (c_X8_init V q1) (Or.inl ml_L_9) mw_X8_init rfl dL_law_4 rfl rfl (Nat.le_of_ble_eq_true rfl) ⟨Nat.le_of_ble_eq_true rfl, Nat.le_of_ble_eq_true rfl⟩ ⟨Nat.le_of_ble_eq_true rfl, Nat.le_of_ble_eq_true rfl⟩ (fun CW hw => ?_)
  obtain ⟨ad, ha1, hCW⟩ := hw
  subst ha1
  rw [List.nil_append]
  refine g_astore_n (lv' := [(0, .ref b), (1, .ref (ad 12 6))]) cx dL_law_7 (by decide) rfl ?_
  refine g_new (ci := 9) (fs := [.null, .null, .null, .int 0, .null, .null, .null, .int 0, .int 0, .int 0, .int 0, .int 0, .null, .null, .int 0, .int 0, .null, .null, .null, .null, .null, .null, .null]) cx tyX9 tyX9_ok i_X9 kw_L_10 nw_X9 zw_X9 rfl (fun j hj => match j, hj with | 0, _ => rfl | 1, _ => rfl | 2, _ => rfl | 3, _ => rfl | 4, _ => rfl | 5, _ => rfl | 6, _ => rfl | 7, _ => rfl | 8, _ => rfl | 9, _ => rfl | 10, _ => rfl | 11, _ => rfl | 12, _ => rfl | 13, _ => rfl | 14, _ => rfl | 15, _ => rfl | 16, _ => rfl | 17, _ => rfl | 18, _ => rfl | 19, _ => rfl | 20, _ => rfl | 21, _ => rfl | 22, _ => rfl | _ + 23, h => absurd h (by omega)) dL_law_8 ⟨Nat.le_of_ble_eq_true rfl, Nat.le_of_ble_eq_true rfl⟩ (fun q2 => ?_)
  refine g_dup cx dL_law_11 rfl ?_
  refine g_initv (rest := [.ref q2]) (As := []) cx (c_X9_init V q2) (Or.inl ml_L_12) mw_X9_init rfl dL_law_12 rfl rfl (Nat.le_of_ble_eq_true rfl) ⟨Nat.le_of_ble_eq_true rfl, Nat.le_of_ble_eq_true rfl⟩ ⟨Nat.le_of_ble_eq_true rfl, Nat.le_of_ble_eq_true rfl⟩ (fun MW hw => ?_)
  obtain ⟨ad2, ha2, hMW⟩ := hw
  subst ha2
  refine g_astore_n (lv' := [(0, .ref b), (1, .ref (ad 12 6)), (2, .ref (ad2 0))]) cx dL_law_15 (by decide) rfl ?_
  refine g_iconst (v := nI (4 * 0)) cx dL_law_16 rfl ?_
  refine g_istore_n (lv' := [(0, .ref b), (1, .ref (ad 12 6)), (2, .ref (ad2 0)), (3, .int (nI (4 * 0)))]) cx dL_law_17 (by decide) rfl ?_
  refine g_widen 600000 7302250 (Nat.le_of_ble_eq_true rfl) (Nat.le_of_ble_eq_true rfl) ?_
  have hJ : JX V ad ad2 CW MW := ⟨rIni, rIni, rIni, rIni, rIni, fun _ => rIni, fun _ => 0, 0, 0, 0, 0, 0, 0, 0, fun _ _ => 0, fun _ _ => 0, 0, 0, fun _ => 0, fun _ _ => 0, fun _ _ => 0, (brg (upd (upd (mBeg (fun _ => 0)) 0 1) 9 1) (fun _ => 0) 0 0 99), upd (upd (mBeg (fun _ => 0)) 0 1) 9 1, fun _ => 0, fun _ => 0, fun _ => 0, fun _ => 0, fun _ => 0, fun _ => 0, fun _ => 0, fun _ => 0, fun _ => 0, fun _ => 0, fun _ => 0, 0, 0, 0, 0, 0, 0, 1, 0, 1, 0, hCW, hMW, IV_ini⟩
  have e : CW ++ MW = [CW, MW].flatten := by simp
  rw [e]
  exact law_loop cx hX hL ⟨Nat.le_of_ble_eq_true rfl, Nat.le_of_ble_eq_true rfl⟩ hret hJ
theorem rf_arr {ty : FieldType} {args : Array Value} {s : State} (h : (Cond.arrayClass ty).before args s = true) (hn : ∀ C, ty ≠ .object C) : ∃ cA, ArrOfT s cA ty ∧ va_RA s cA ty := by
  obtain ⟨cA, kA, comp, h1, h2, h3⟩ := Cond.arrayClass_spec h
  refine ⟨cA, fun n z => ⟨fun k h => (by cases h), kA, h2, comp, h3⟩, ?_⟩
  cases ty with
  | object C => exact absurd rfl (hn C)
  | _ => exact h1
theorem rf_arrO {C : String} {args : Array Value} {s : State} (h : (Cond.arrayOver (.object C)).before args s = true) : ∃ cA, ArrOfT s cA (.object C) ∧ va_RA s cA (.object C) := by
  obtain ⟨comp, cA, kA, h1, h2, h3, h4, h5⟩ := Cond.arrayOver_spec h
  exact ⟨cA, fun n z => ⟨fun k h => (by cases h), kA, h3, comp, h4⟩, kA, comp, h3, h4, h1, h5⟩
theorem rf_nst_tab {w : Cond} (h : w ∈ lw_nst) : w.onTables = true := by
  rcases rf_nst_form w h with ⟨_, _, _, _, _, _, rfl⟩ | ⟨_, _, _, _, rfl⟩ <;> rfl
theorem ao_tbl : Cond.arrayOver (.object "RingFrames$Ring") ∈ lw_tbl := List.mem_append_right _ (List.mem_of_getElem? (i := 201) (by decide +kernel))
