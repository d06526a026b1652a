def rm_X0_init : Room := { frames := 1, cells := 3, slots := 12, locals := 20 }
set_option maxRecDepth 100000 in
set_option maxHeartbeats 4000000 in
theorem c_X0_init (V : VT) (h0 : Nat) : CV V yX0_init cX0_init 1 rm_X0_init [.ref h0] ([(h0, .inr (0, [.null, .null, .null]))]) (fun w_ => ∃ ad : Nat → Nat, ad 0 = h0 ∧ w_ = wCopy V ad (fun _ _ => 0)) := by
  refine CV_intro (by decide) (Nat.le_of_ble_eq_true rfl) (fun K cx hci hret => ?_)
  show G V K 1 0 0 ([(h0, .inr (0, [.null, .null, .null]))]) 0 [(0, .ref h0)] []
  refine g_aload_n (v := h0) cx dX0_init_0 rfl ?_
  refine g_objInit cx ml_X0_3 dX0_init_1 (Nat.le_of_ble_eq_true rfl) (Nat.le_of_ble_eq_true rfl) ?_
  refine g_aload_n (v := h0) cx dX0_init_4 rfl ?_
  refine g_iconst (v := 4) cx dX0_init_5 (by decide) ?_
  refine g_newi cx dX0_init_6 (nl 4) (by decide) ⟨Nat.le_of_ble_eq_true rfl, Nat.le_of_ble_eq_true rfl⟩ (fun q1 => ?_)
  refine g_putF (ws' := [(h0, .inr (0, [.ref q1, .null, .null]))] ++ [(q1, .inl (V.2.2 0, 4, .inl (fun _ => 0)))]) cx (hci rfl) fk_X0_9 rfl fw_X0_9 dX0_init_8 0 rfl rfl rfl (Nat.le_of_ble_eq_true rfl) rfl ?_
  refine g_aload_n (v := h0) cx dX0_init_11 rfl ?_
  refine g_iconst (v := 4) cx dX0_init_12 (by decide) ?_
  refine g_newi cx dX0_init_13 (nl 4) (by decide) ⟨Nat.le_of_ble_eq_true rfl, Nat.le_of_ble_eq_true rfl⟩ (fun q2 => ?_)
  refine g_putF (ws' := [(h0, .inr (0, [.ref q1, .ref q2, .null]))] ++ [(q1, .inl (V.2.2 0, 4, .inl (fun _ => 0)))] ++ [(q2, .inl (V.2.2 0, 4, .inl (fun _ => 0)))]) cx (hci rfl) fk_X0_15 rfl fw_X0_15 dX0_init_15 0 rfl rfl rfl (Nat.le_of_ble_eq_true rfl) rfl ?_
  refine g_aload_n (v := h0) cx dX0_init_18 rfl ?_
  refine g_iconst (v := 4) cx dX0_init_19 (by decide) ?_
  refine g_newi cx dX0_init_20 (nl 4) (by decide) ⟨Nat.le_of_ble_eq_true rfl, Nat.le_of_ble_eq_true rfl⟩ (fun q3 => ?_)
  refine g_putF (ws' := [(h0, .inr (0, [.ref q1, .ref q2, .ref q3]))] ++ [(q1, .inl (V.2.2 0, 4, .inl (fun _ => 0)))] ++ [(q2, .inl (V.2.2 0, 4, .inl (fun _ => 0)))] ++ [(q3, .inl (V.2.2 0, 4, .inl (fun _ => 0)))]) cx (hci rfl) fk_X0_18 rfl fw_X0_18 dX0_init_22 0 rfl rfl rfl (Nat.le_of_ble_eq_true rfl) rfl ?_
  obtain ⟨ad, e0, e1, e2, e3⟩ : ∃ ad : Nat → Nat, ad 0 = h0 ∧ ad 1 = q1 ∧ ad 2 = q2 ∧ ad 3 = q3 := ⟨fun k => match k with | 0 => h0 | 1 => q1 | 2 => q2 | _ => q3, rfl, rfl, rfl, rfl⟩
  subst e0
  subst e1
  subst e2
  subst e3
  exact hret _ _ _ dX0_init_25 (⟨ad, rfl, rfl⟩)
def rm_X5_init : Room := { frames := 1, cells := 2, slots := 12, locals := 20 }
set_option maxRecDepth 100000 in
set_option maxHeartbeats 4000000 in
theorem c_X5_init (V : VT) (h0 : Nat) : CV V yX5_init cX5_init 1 rm_X5_init [.ref h0] ([(h0, .inr (5, [.null, .null, .int 0]))]) (fun w_ => ∃ ad : Nat → Nat, ad 0 = h0 ∧ w_ = wSight V ad (fun _ _ => 0)) := by
  refine CV_intro (by decide) (Nat.le_of_ble_eq_true rfl) (fun K cx hci hret => ?_)
  show G V K 1 0 0 ([(h0, .inr (5, [.null, .null, .int 0]))]) 0 [(0, .ref h0)] []
  refine g_aload_n (v := h0) cx dX5_init_0 rfl ?_
  refine g_objInit cx ml_X5_3 dX5_init_1 (Nat.le_of_ble_eq_true rfl) (Nat.le_of_ble_eq_true rfl) ?_
  refine g_aload_n (v := h0) cx dX5_init_4 rfl ?_
  refine g_bipush (v := 6) cx dX5_init_5 (by decide) ?_
  refine g_newi cx dX5_init_7 (nl 6) (by decide) ⟨Nat.le_of_ble_eq_true rfl, Nat.le_of_ble_eq_true rfl⟩ (fun q1 => ?_)
  refine g_putF (ws' := [(h0, .inr (5, [.ref q1, .null, .int 0]))] ++ [(q1, .inl (V.2.2 0, 6, .inl (fun _ => 0)))]) cx (hci rfl) fk_X5_9 rfl fw_X5_9 dX5_init_9 0 rfl rfl rfl (Nat.le_of_ble_eq_true rfl) rfl ?_
  refine g_aload_n (v := h0) cx dX5_init_12 rfl ?_
  refine g_bipush (v := 6) cx dX5_init_13 (by decide) ?_
  refine g_newi cx dX5_init_15 (nl 6) (by decide) ⟨Nat.le_of_ble_eq_true rfl, Nat.le_of_ble_eq_true rfl⟩ (fun q2 => ?_)
  refine g_putF (ws' := [(h0, .inr (5, [.ref q1, .ref q2, .int 0]))] ++ [(q1, .inl (V.2.2 0, 6, .inl (fun _ => 0)))] ++ [(q2, .inl (V.2.2 0, 6, .inl (fun _ => 0)))]) cx (hci rfl) fk_X5_15 rfl fw_X5_15 dX5_init_17 0 rfl rfl rfl (Nat.le_of_ble_eq_true rfl) rfl ?_
  obtain ⟨ad, e0, e1, e2⟩ : ∃ ad : Nat → Nat, ad 0 = h0 ∧ ad 1 = q1 ∧ ad 2 = q2 := ⟨fun k => match k with | 0 => h0 | 1 => q1 | _ => q2, rfl, rfl, rfl⟩
  subst e0
  subst e1
  subst e2
  exact hret _ _ _ dX5_init_20 (⟨ad, rfl, rfl⟩)
def rm_X6_init : Room := { frames := 1, cells := 2, slots := 49, locals := 20 }
set_option maxRecDepth 100000 in
set_option maxHeartbeats 4000000 in
theorem c_X6_init (V : VT) (h0 : Nat) : CV V yX6_init cX6_init 1 rm_X6_init [.ref h0] ([(h0, .inr (6, [.null, .null, .int 0]))]) (fun w_ => ∃ ad : Nat → Nat, ad 0 = h0 ∧ w_ = wSusp V ad (fun _ _ => 0)) := by
  refine CV_intro (by decide) (Nat.le_of_ble_eq_true rfl) (fun K cx hci hret => ?_)
  show G V K 1 0 0 ([(h0, .inr (6, [.null, .null, .int 0]))]) 0 [(0, .ref h0)] []
  refine g_aload_n (v := h0) cx dX6_init_0 rfl ?_
  refine g_objInit cx ml_X6_3 dX6_init_1 (Nat.le_of_ble_eq_true rfl) (Nat.le_of_ble_eq_true rfl) ?_
  refine g_aload_n (v := h0) cx dX6_init_4 rfl ?_
  refine g_bipush (v := 7) cx dX6_init_5 (by decide) ?_
  refine g_newi cx dX6_init_7 (nl 7) (by decide) ⟨Nat.le_of_ble_eq_true rfl, Nat.le_of_ble_eq_true rfl⟩ (fun q1 => ?_)
  refine g_putF (ws' := [(h0, .inr (6, [.ref q1, .null, .int 0]))] ++ [(q1, .inl (V.2.2 0, 7, .inl (fun _ => 0)))]) cx (hci rfl) fk_X6_9 rfl fw_X6_9 dX6_init_9 0 rfl rfl rfl (Nat.le_of_ble_eq_true rfl) rfl ?_
  refine g_aload_n (v := h0) cx dX6_init_12 rfl ?_
  refine g_bipush (v := 42) cx dX6_init_13 (by decide) ?_
  refine g_newi cx dX6_init_15 (nl 42) (by decide) ⟨Nat.le_of_ble_eq_true rfl, Nat.le_of_ble_eq_true rfl⟩ (fun q2 => ?_)
  refine g_putF (ws' := [(h0, .inr (6, [.ref q1, .ref q2, .int 0]))] ++ [(q1, .inl (V.2.2 0, 7, .inl (fun _ => 0)))] ++ [(q2, .inl (V.2.2 0, 42, .inl (fun _ => 0)))]) cx (hci rfl) fk_X6_15 rfl fw_X6_15 dX6_init_17 0 rfl rfl rfl (Nat.le_of_ble_eq_true rfl) rfl ?_
  obtain ⟨ad, e0, e1, e2⟩ : ∃ ad : Nat → Nat, ad 0 = h0 ∧ ad 1 = q1 ∧ ad 2 = q2 := ⟨fun k => match k with | 0 => h0 | 1 => q1 | _ => q2, rfl, rfl, rfl⟩
  subst e0
  subst e1
  subst e2
  exact hret _ _ _ dX6_init_20 (⟨ad, rfl, rfl⟩)
def rm_X7_init : Room := { frames := 1, cells := 1, slots := 120, locals := 20 }
set_option maxRecDepth 100000 in
set_option maxHeartbeats 4000000 in
theorem c_X7_init (V : VT) (h0 : Nat) : CV V yX7_init cX7_init 1 rm_X7_init [.ref h0] ([(h0, .inr (7, [.null, .int 0, .int 0, .int 0, .int 0, .int 0]))]) (fun w_ => ∃ ad : Nat → Nat, ad 0 = h0 ∧ w_ = wTx V ad (fun _ => 0) 0 0 0 0 0) := by
  refine CV_intro (by decide) (Nat.le_of_ble_eq_true rfl) (fun K cx hci hret => ?_)
  show G V K 1 0 0 ([(h0, .inr (7, [.null, .int 0, .int 0, .int 0, .int 0, .int 0]))]) 0 [(0, .ref h0)] []
  refine g_aload_n (v := h0) cx dX7_init_0 rfl ?_
  refine g_objInit cx ml_X7_3 dX7_init_1 (Nat.le_of_ble_eq_true rfl) (Nat.le_of_ble_eq_true rfl) ?_
  refine g_aload_n (v := h0) cx dX7_init_4 rfl ?_
  refine g_bipush (v := 120) cx dX7_init_5 (by decide) ?_
  refine g_newi cx dX7_init_7 (nl 120) (by decide) ⟨Nat.le_of_ble_eq_true rfl, Nat.le_of_ble_eq_true rfl⟩ (fun q1 => ?_)
  refine g_putF (ws' := [(h0, .inr (7, [.ref q1, .int 0, .int 0, .int 0, .int 0, .int 0]))] ++ [(q1, .inl (V.2.2 0, 120, .inl (fun _ => 0)))]) cx (hci rfl) fk_X7_9 rfl fw_X7_9 dX7_init_9 0 rfl rfl rfl (Nat.le_of_ble_eq_true rfl) rfl ?_
  obtain ⟨ad, e0, e1⟩ : ∃ ad : Nat → Nat, ad 0 = h0 ∧ ad 1 = q1 := ⟨fun k => match k with | 0 => h0  | _ => q1, rfl, rfl⟩
  subst e0
  subst e1
  exact hret _ _ _ dX7_init_12 (⟨ad, rfl, rfl⟩)
def rm_X2_init : Room := { frames := 1, cells := 0, slots := 0, locals := 20 }
set_option maxRecDepth 100000 in
set_option maxHeartbeats 4000000 in
theorem c_X2_init (V : VT) (h0 tx : Nat) : CV V yX2_init cX2_init 2 rm_X2_init [.ref h0, .ref tx] ([(h0, .inr (2, [.null, .int 0]))]) (fun w_ => w_ = wRd h0 tx 0) := by
  refine CV_intro (by decide) (Nat.le_of_ble_eq_true rfl) (fun K cx hci hret => ?_)
  show G V K 2 0 0 ([(h0, .inr (2, [.null, .int 0]))]) 0 [(0, .ref h0), (1, .ref tx)] []
  refine g_aload_n (v := h0) cx dX2_init_0 rfl ?_
  refine g_objInit cx ml_X2_3 dX2_init_1 (Nat.le_of_ble_eq_true rfl) (Nat.le_of_ble_eq_true rfl) ?_
  refine g_aload_n (v := h0) cx dX2_init_4 rfl ?_
  refine g_aload_n (v := tx) cx dX2_init_5 rfl ?_
  refine g_putF (ws' := [(h0, .inr (2, [.ref tx, .int 0]))]) cx (hci rfl) fk_X2_9 rfl fw_X2_9 dX2_init_6 0 rfl rfl rfl (Nat.le_of_ble_eq_true rfl) rfl ?_
  exact hret _ _ _ dX2_init_9 (rfl)
def rm_X3_init : Room := { frames := 3, cells := 5, slots := 98, locals := 69 }
set_option maxRecDepth 100000 in
set_option maxHeartbeats 4000000 in
theorem c_X3_init (V : VT) (h0 : Nat) : CV V yX3_init cX3_init 1 rm_X3_init [.ref h0] ([(h0, .inr (3, [.null, .null, .null, .null, .null, .int 0, .int 0, .int 0, .int 0, .int 0, .int 0, .int 0]))]) (fun w_ => ∃ ad : Nat → Nat, ad 0 = h0 ∧ w_ = wRing V ad rIni) := by
  refine CV_intro (by decide) (Nat.le_of_ble_eq_true rfl) (fun K cx hci hret => ?_)
  show G V K 1 0 0 ([(h0, .inr (3, [.null, .null, .null, .null, .null, .int 0, .int 0, .int 0, .int 0, .int 0, .int 0, .int 0]))]) 0 [(0, .ref h0)] []
  refine g_aload_n (v := h0) cx dX3_init_0 rfl ?_
  refine g_objInit cx ml_X3_3 dX3_init_1 (Nat.le_of_ble_eq_true rfl) (Nat.le_of_ble_eq_true rfl) ?_
  refine g_aload_n (v := h0) cx dX3_init_4 rfl ?_
  refine g_bipush (v := 54) cx dX3_init_5 (by decide) ?_
  refine g_newi cx dX3_init_7 (nl 54) (by decide) ⟨Nat.le_of_ble_eq_true rfl, Nat.le_of_ble_eq_true rfl⟩ (fun q1 => ?_)
  refine g_putF (ws' := [(h0, .inr (3, [.ref q1, .null, .null, .null, .null, .int 0, .int 0, .int 0, .int 0, .int 0, .int 0, .int 0]))] ++ [(q1, .inl (V.2.2 0, 54, .inl (fun _ => 0)))]) cx (hci rfl) fk_X3_9 rfl fw_X3_9 dX3_init_9 0 rfl rfl rfl (Nat.le_of_ble_eq_true rfl) rfl ?_
  refine g_aload_n (v := h0) cx dX3_init_12 rfl ?_
  refine g_bipush (v := 14) cx dX3_init_13 (by decide) ?_
  refine g_newi cx dX3_init_15 (nl 14) (by decide) ⟨Nat.le_of_ble_eq_true rfl, Nat.le_of_ble_eq_true rfl⟩ (fun q2 => ?_)
  refine g_putF (ws' := [(h0, .inr (3, [.ref q1, .ref q2, .null, .null, .null, .int 0, .int 0, .int 0, .int 0, .int 0, .int 0, .int 0]))] ++ [(q1, .inl (V.2.2 0, 54, .inl (fun _ => 0)))] ++ [(q2, .inl (V.2.2 0, 14, .inl (fun _ => 0)))]) cx (hci rfl) fk_X3_15 rfl fw_X3_15 dX3_init_17 0 rfl rfl rfl (Nat.le_of_ble_eq_true rfl) rfl ?_
  refine g_aload_n (v := h0) cx dX3_init_20 rfl ?_
  refine g_bipush (v := 20) cx dX3_init_21 (by decide) ?_
  refine g_newi cx dX3_init_23 (nl 20) (by decide) ⟨Nat.le_of_ble_eq_true rfl, Nat.le_of_ble_eq_true rfl⟩ (fun q3 => ?_)
  refine g_putF (ws' := [(h0, .inr (3, [.ref q1, .ref q2, .ref q3, .null, .null, .int 0, .int 0, .int 0, .int 0, .int 0, .int 0, .int 0]))] ++ [(q1, .inl (V.2.2 0, 54, .inl (fun _ => 0)))] ++ [(q2, .inl (V.2.2 0, 14, .inl (fun _ => 0)))] ++ [(q3, .inl (V.2.2 0, 20, .inl (fun _ => 0)))]) cx (hci rfl) fk_X3_18 rfl fw_X3_18 dX3_init_25 0 rfl rfl rfl (Nat.le_of_ble_eq_true rfl) rfl ?_
  refine g_aload_n (v := h0) cx dX3_init_28 rfl ?_
  refine g_bipush (v := 8) cx dX3_init_29 (by decide) ?_
  refine g_newi cx dX3_init_31 (nl 8) (by decide) ⟨Nat.le_of_ble_eq_true rfl, Nat.le_of_ble_eq_true rfl⟩ (fun q4 => ?_)
  refine g_putF (ws' := [(h0, .inr (3, [.ref q1, .ref q2, .ref q3, .ref q4, .null, .int 0, .int 0, .int 0, .int 0, .int 0, .int 0, .int 0]))] ++ [(q1, .inl (V.2.2 0, 54, .inl (fun _ => 0)))] ++ [(q2, .inl (V.2.2 0, 14, .inl (fun _ => 0)))] ++ [(q3, .inl (V.2.2 0, 20, .inl (fun _ => 0)))] ++ [(q4, .inl (V.2.2 0, 8, .inl (fun _ => 0)))]) cx (hci rfl) fk_X3_21 rfl fw_X3_21 dX3_init_33 0 rfl rfl rfl (Nat.le_of_ble_eq_true rfl) rfl ?_
  refine g_aload_n (v := h0) cx dX3_init_36 rfl ?_
  refine g_iconst (v := 2) cx dX3_init_37 (by decide) ?_
  refine g_newi cx dX3_init_38 (nl 2) (by decide) ⟨Nat.le_of_ble_eq_true rfl, Nat.le_of_ble_eq_true rfl⟩ (fun q5 => ?_)
  refine g_putF (ws' := [(h0, .inr (3, [.ref q1, .ref q2, .ref q3, .ref q4, .ref q5, .int 0, .int 0, .int 0, .int 0, .int 0, .int 0, .int 0]))] ++ [(q1, .inl (V.2.2 0, 54, .inl (fun _ => 0)))] ++ [(q2, .inl (V.2.2 0, 14, .inl (fun _ => 0)))] ++ [(q3, .inl (V.2.2 0, 20, .inl (fun _ => 0)))] ++ [(q4, .inl (V.2.2 0, 8, .inl (fun _ => 0)))] ++ [(q5, .inl (V.2.2 0, 2, .inl (fun _ => 0)))]) cx (hci rfl) fk_X3_24 rfl fw_X3_24 dX3_init_40 0 rfl rfl rfl (Nat.le_of_ble_eq_true rfl) rfl ?_
  obtain ⟨ad, e0, e1, e2, e3, e4, e5⟩ : ∃ ad : Nat → Nat, ad 0 = h0 ∧ ad 1 = q1 ∧ ad 2 = q2 ∧ ad 3 = q3 ∧ ad 4 = q4 ∧ ad 5 = q5 := ⟨fun k => match k with | 0 => h0 | 1 => q1 | 2 => q2 | 3 => q3 | 4 => q4 | _ => q5, rfl, rfl, rfl, rfl, rfl, rfl⟩
  subst e0
  subst e1
  subst e2
  subst e3
  subst e4
  subst e5
  refine g_aload_n (v := ad 0) cx dX3_init_43 rfl ?_
  refine k_callv (ws' := wRing V ad (rEmpty (fun _ _ => 0))) (As := []) (rest := []) cx (c_X3_becomeEmpty V ad (fun _ _ => 0)) ml_X3_27 dX3_init_44 [0, 1, 2, 3, 4, 5] rfl rfl [ad 0, ad 1, ad 2, ad 3, ad 4, ad 5] rfl rfl rfl 0 3 rfl rfl rfl rfl rfl (Nat.le_of_ble_eq_true rfl) ⟨Nat.le_of_ble_eq_true rfl, Nat.le_of_ble_eq_true rfl⟩ ⟨Nat.le_of_ble_eq_true rfl, Nat.le_of_ble_eq_true rfl⟩ ?_
  refine g_aload_n (v := ad 0) cx dX3_init_47 rfl ?_
  refine g_iconst (v := 1) cx dX3_init_48 (by decide) ?_
  refine g_iconst (v := 0) cx dX3_init_49 (by decide) ?_
  refine k_callv (ws' := wRing V ad rIni) (As := [.int 1, .int 0]) (rest := []) cx (c_X3_addDrive V ad (rEmpty (fun _ _ => 0)) 1 0 0 rfl (by decide) (by decide) rfl) ml_X3_30 dX3_init_50 [0, 1, 2, 3, 4, 5] rfl rfl [ad 0, ad 1, ad 2, ad 3, ad 4, ad 5] rfl rfl rfl 0 3 rfl rfl rfl rfl rfl (Nat.le_of_ble_eq_true rfl) ⟨Nat.le_of_ble_eq_true rfl, Nat.le_of_ble_eq_true rfl⟩ ⟨Nat.le_of_ble_eq_true rfl, Nat.le_of_ble_eq_true rfl⟩ ?_
  exact hret _ _ _ dX3_init_53 (⟨ad, rfl, rfl⟩)
