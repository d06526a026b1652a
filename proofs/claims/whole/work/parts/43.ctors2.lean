def rm_X4_init : Room := { frames := 2, cells := 8, slots := 30, locals := 40 }
set_option maxRecDepth 100000 in
set_option maxHeartbeats 4000000 in
theorem c_X4_init (V : VT) (h0 : Nat) : CV V yX4_init cX4_init 1 rm_X4_init [.ref h0] ([(h0, .inr (4, [.null, .null, .int 0]))]) (fun w_ => ∃ a1 a2 : Nat → Nat, w_ = List.flatten [wSd h0 (a1 0) (a2 0) 0, wCopy V a1 (fun _ _ => 0), wCopy V a2 (fun _ _ => 0)]) := by
  refine CV_intro (by decide) (Nat.le_of_ble_eq_true rfl) (fun K cx hci hret => ?_)
  show G V K 1 0 0 (List.flatten [[(h0, .inr (4, [.null, .null, .int 0]))]]) 0 [(0, .ref h0)] []
  refine g_aload_n (v := h0) cx dX4_init_0 rfl ?_
  refine g_objInit cx ml_X4_3 dX4_init_1 (Nat.le_of_ble_eq_true rfl) (Nat.le_of_ble_eq_true rfl) ?_
  refine g_aload_n (v := h0) cx dX4_init_4 rfl ?_
  refine g_new (ci := 0) (fs := [.null, .null, .null]) cx tyX0 tyX0_ok i_X0 kw_X4_9 nw_X0 zw_X0 rfl (fun j hj => match j, hj with | 0, _ => rfl | 1, _ => rfl | 2, _ => rfl | _ + 3, h => absurd h (by omega)) dX4_init_5 ⟨Nat.le_of_ble_eq_true rfl, Nat.le_of_ble_eq_true rfl⟩ (fun q1 => ?_)
  refine g_dup cx dX4_init_8 rfl ?_
  refine g_initv (rest := [.ref q1, .ref h0]) (As := []) cx (c_X0_init V q1) (Or.inr ml_X4_11) mw_X0_init rfl dX4_init_9 rfl rfl (Nat.le_of_ble_eq_true rfl) ⟨Nat.le_of_ble_eq_true rfl, Nat.le_of_ble_eq_true rfl⟩ ⟨Nat.le_of_ble_eq_true rfl, Nat.le_of_ble_eq_true rfl⟩ (fun w hw => ?_)
  obtain ⟨a1, ha1, rfl⟩ := hw
  subst ha1
  refine g_bl (Ws' := [[(h0, .inr (4, [.null, .null, .int 0]))], wCopy V a1 (fun _ _ => 0)]) rfl ?_
  refine b_putF (blk' := [(h0, .inr (4, [.ref (a1 0), .null, .int 0]))]) (Ws' := [[(h0, .inr (4, [.ref (a1 0), .null, .int 0]))], wCopy V a1 (fun _ _ => 0)]) cx (hci rfl) fk_X4_12 rfl fw_X4_12 dX4_init_12 0 0 rfl rfl rfl rfl (Nat.le_of_ble_eq_true rfl) rfl rfl ?_
  refine g_aload_n (v := h0) cx dX4_init_15 rfl ?_
  refine g_new (ci := 0) (fs := [.null, .null, .null]) cx tyX0 tyX0_ok i_X0 kw_X4_9 nw_X0 zw_X0 rfl (fun j hj => match j, hj with | 0, _ => rfl | 1, _ => rfl | 2, _ => rfl | _ + 3, h => absurd h (by omega)) dX4_init_16 ⟨Nat.le_of_ble_eq_true rfl, Nat.le_of_ble_eq_true rfl⟩ (fun q2 => ?_)
  refine g_dup cx dX4_init_19 rfl ?_
  refine g_initv (rest := [.ref q2, .ref h0]) (As := []) cx (c_X0_init V q2) (Or.inr ml_X4_11) mw_X0_init rfl dX4_init_20 rfl rfl (Nat.le_of_ble_eq_true rfl) ⟨Nat.le_of_ble_eq_true rfl, Nat.le_of_ble_eq_true rfl⟩ ⟨Nat.le_of_ble_eq_true rfl, Nat.le_of_ble_eq_true rfl⟩ (fun w hw => ?_)
  obtain ⟨a2, ha2, rfl⟩ := hw
  subst ha2
  refine g_bl (Ws' := [[(h0, .inr (4, [.ref (a1 0), .null, .int 0]))], wCopy V a1 (fun _ _ => 0), wCopy V a2 (fun _ _ => 0)]) rfl ?_
  refine b_putF (blk' := [(h0, .inr (4, [.ref (a1 0), .ref (a2 0), .int 0]))]) (Ws' := [[(h0, .inr (4, [.ref (a1 0), .ref (a2 0), .int 0]))], wCopy V a1 (fun _ _ => 0), wCopy V a2 (fun _ _ => 0)]) cx (hci rfl) fk_X4_18 rfl fw_X4_18 dX4_init_23 0 0 rfl rfl rfl rfl (Nat.le_of_ble_eq_true rfl) rfl rfl ?_
  exact hret _ _ _ dX4_init_26 (⟨a1, a2, rfl⟩)
def rm_X1_init : Room := { frames := 4, cells := 37, slots := 666, locals := 89 }
set_option maxRecDepth 100000 in
set_option maxHeartbeats 4000000 in
theorem c_X1_init (V : VT) (h0 : Nat) : CV V yX1_init cX1_init 2 rm_X1_init [.ref h0] ([(h0, .inr (1, [.null, .int 0, .int 0]))]) (fun w_ => ∃ (b : Nat) (a1 a2 a3 a4 a5 a6 : Nat → Nat), w_ = List.flatten [wHi h0 b 0 0, wRs V b 6 (f6 (a1 0) (a2 0) (a3 0) (a4 0) (a5 0) (a6 0)), wRing V a1 rIni, wRing V a2 rIni, wRing V a3 rIni, wRing V a4 rIni, wRing V a5 rIni, wRing V a6 rIni]) := by
  refine CV_intro (by decide) (Nat.le_of_ble_eq_true rfl) (fun K cx hci hret => ?_)
  show G V K 2 0 0 (List.flatten [[(h0, .inr (1, [.null, .int 0, .int 0]))]]) 0 [(0, .ref h0)] []
  refine g_aload_n (v := h0) cx dX1_init_0 rfl ?_
  refine g_objInit cx ml_X1_3 dX1_init_1 (Nat.le_of_ble_eq_true rfl) (Nat.le_of_ble_eq_true rfl) ?_
  refine g_aload_n (v := h0) cx dX1_init_4 rfl ?_
  refine g_bipush (v := 6) cx dX1_init_5 (by decide) ?_
  refine g_newq cx kw_X1_9 dX1_init_7 (nl 6) (by decide) ⟨Nat.le_of_ble_eq_true rfl, Nat.le_of_ble_eq_true rfl⟩ (fun q1 => ?_)
  refine g_bl (Ws' := [[(h0, .inr (1, [.null, .int 0, .int 0]))], [(q1, .inl (V.2.2 2, 6, .inr (.inr (.inr (.inr (fun _ => none))))))]]) rfl ?_
  refine b_putF (blk' := [(h0, .inr (1, [.ref q1, .int 0, .int 0]))]) (Ws' := [[(h0, .inr (1, [.ref q1, .int 0, .int 0]))], [(q1, .inl (V.2.2 2, 6, .inr (.inr (.inr (.inr (fun _ => none))))))]]) cx (hci rfl) fk_X1_11 rfl fw_X1_11 dX1_init_10 0 0 rfl rfl rfl rfl (Nat.le_of_ble_eq_true rfl) rfl rfl ?_
  refine g_iconst (v := 0) cx dX1_init_13 (by decide) ?_
  refine g_istore_n (lv' := [(0, .ref h0), (1, .int 0)]) cx dX1_init_14 (by decide) rfl ?_
  refine g_iload_n (v := 0) cx dX1_init_15 rfl ?_
  refine g_bipush (v := 6) cx dX1_init_16 (by decide) ?_
  refine g_icmp_ge cx 40 dX1_init_18 (by decide) (fun hw1 => absurd hw1 (by decide)) (fun hw1 => ?_)
  refine g_aload_n (v := h0) cx dX1_init_21 rfl ?_
  refine b_get (v := .ref q1) cx fk_X1_11 dX1_init_22 0 0 rfl rfl rfl ?_
  refine g_iload_n (v := 0) cx dX1_init_25 rfl ?_
  refine g_new (ci := 3) (fs := [.null, .null, .null, .null, .null, .int 0, .int 0, .int 0, .int 0, .int 0, .int 0, .int 0]) cx tyX3 tyX3_ok i_X3 kw_X1_9 nw_X3 zw_X3 rfl (fun j hj => match j, hj with | 0, _ => rfl | 1, _ => rfl | 2, _ => rfl | 3, _ => rfl | 4, _ => rfl | 5, _ => rfl | 6, _ => rfl | 7, _ => rfl | 8, _ => rfl | 9, _ => rfl | 10, _ => rfl | 11, _ => rfl | _ + 12, h => absurd h (by omega)) dX1_init_26 ⟨Nat.le_of_ble_eq_true rfl, Nat.le_of_ble_eq_true rfl⟩ (fun q2 => ?_)
  refine g_dup cx dX1_init_29 rfl ?_
  refine g_initv (rest := [.ref q2, .int 0, .ref q1]) (As := []) cx (c_X3_init V q2) (Or.inl ml_X1_17) mw_X3_init rfl dX1_init_30 rfl rfl (Nat.le_of_ble_eq_true rfl) ⟨Nat.le_of_ble_eq_true rfl, Nat.le_of_ble_eq_true rfl⟩ ⟨Nat.le_of_ble_eq_true rfl, Nat.le_of_ble_eq_true rfl⟩ (fun w hw => ?_)
  obtain ⟨a1, ha1, rfl⟩ := hw
  subst ha1
  refine g_bl (Ws' := [[(h0, .inr (1, [.ref q1, .int 0, .int 0]))], [(q1, .inl (V.2.2 2, 6, .inr (.inr (.inr (.inr (fun _ => none))))))], wRing V a1 rIni]) rfl ?_
  refine b_aast (blk' := [(q1, .inl (V.2.2 2, 6, .inr (.inr (.inr (.inr (va_up (fun _ => none) 0 (some (a1 0))))))))]) (Ws' := [[(h0, .inr (1, [.ref q1, .int 0, .int 0]))], [(q1, .inl (V.2.2 2, 6, .inr (.inr (.inr (.inr (va_up (fun _ => none) 0 (some (a1 0))))))))], wRing V a1 rIni]) cx dX1_init_33 1 0 2 0 0 rfl rfl rfl rfl (nl 0) (by decide) (by decide) rfl rfl ?_
  refine g_iinc (x := 0) (v := 1) (lv' := [(0, .ref h0), (1, .int 1)]) cx dX1_init_34 rfl (by decide) rfl rfl ?_
  refine g_goto cx 15 dX1_init_37 (by decide) ?_
  refine g_iload_n (v := 1) cx dX1_init_15 rfl ?_
  refine g_bipush (v := 6) cx dX1_init_16 (by decide) ?_
  refine g_icmp_ge cx 40 dX1_init_18 (by decide) (fun hw2 => absurd hw2 (by decide)) (fun hw2 => ?_)
  refine g_aload_n (v := h0) cx dX1_init_21 rfl ?_
  refine b_get (v := .ref q1) cx fk_X1_11 dX1_init_22 0 0 rfl rfl rfl ?_
  refine g_iload_n (v := 1) cx dX1_init_25 rfl ?_
  refine g_new (ci := 3) (fs := [.null, .null, .null, .null, .null, .int 0, .int 0, .int 0, .int 0, .int 0, .int 0, .int 0]) cx tyX3 tyX3_ok i_X3 kw_X1_9 nw_X3 zw_X3 rfl (fun j hj => match j, hj with | 0, _ => rfl | 1, _ => rfl | 2, _ => rfl | 3, _ => rfl | 4, _ => rfl | 5, _ => rfl | 6, _ => rfl | 7, _ => rfl | 8, _ => rfl | 9, _ => rfl | 10, _ => rfl | 11, _ => rfl | _ + 12, h => absurd h (by omega)) dX1_init_26 ⟨Nat.le_of_ble_eq_true rfl, Nat.le_of_ble_eq_true rfl⟩ (fun q3 => ?_)
  refine g_dup cx dX1_init_29 rfl ?_
  refine g_initv (rest := [.ref q3, .int 1, .ref q1]) (As := []) cx (c_X3_init V q3) (Or.inl ml_X1_17) mw_X3_init rfl dX1_init_30 rfl rfl (Nat.le_of_ble_eq_true rfl) ⟨Nat.le_of_ble_eq_true rfl, Nat.le_of_ble_eq_true rfl⟩ ⟨Nat.le_of_ble_eq_true rfl, Nat.le_of_ble_eq_true rfl⟩ (fun w hw => ?_)
  obtain ⟨a2, ha2, rfl⟩ := hw
  subst ha2
  refine g_bl (Ws' := [[(h0, .inr (1, [.ref q1, .int 0, .int 0]))], [(q1, .inl (V.2.2 2, 6, .inr (.inr (.inr (.inr (va_up (fun _ => none) 0 (some (a1 0))))))))], wRing V a1 rIni, wRing V a2 rIni]) rfl ?_
  refine b_aast (blk' := [(q1, .inl (V.2.2 2, 6, .inr (.inr (.inr (.inr (va_up (va_up (fun _ => none) 0 (some (a1 0))) 1 (some (a2 0))))))))]) (Ws' := [[(h0, .inr (1, [.ref q1, .int 0, .int 0]))], [(q1, .inl (V.2.2 2, 6, .inr (.inr (.inr (.inr (va_up (va_up (fun _ => none) 0 (some (a1 0))) 1 (some (a2 0))))))))], wRing V a1 rIni, wRing V a2 rIni]) cx dX1_init_33 1 0 3 0 1 rfl rfl rfl rfl (nl 1) (by decide) (by decide) rfl rfl ?_
  refine g_iinc (x := 1) (v := 2) (lv' := [(0, .ref h0), (1, .int 2)]) cx dX1_init_34 rfl (by decide) rfl rfl ?_
  refine g_goto cx 15 dX1_init_37 (by decide) ?_
  refine g_iload_n (v := 2) cx dX1_init_15 rfl ?_
  refine g_bipush (v := 6) cx dX1_init_16 (by decide) ?_
  refine g_icmp_ge cx 40 dX1_init_18 (by decide) (fun hw3 => absurd hw3 (by decide)) (fun hw3 => ?_)
  refine g_aload_n (v := h0) cx dX1_init_21 rfl ?_
  refine b_get (v := .ref q1) cx fk_X1_11 dX1_init_22 0 0 rfl rfl rfl ?_
  refine g_iload_n (v := 2) cx dX1_init_25 rfl ?_
  refine g_new (ci := 3) (fs := [.null, .null, .null, .null, .null, .int 0, .int 0, .int 0, .int 0, .int 0, .int 0, .int 0]) cx tyX3 tyX3_ok i_X3 kw_X1_9 nw_X3 zw_X3 rfl (fun j hj => match j, hj with | 0, _ => rfl | 1, _ => rfl | 2, _ => rfl | 3, _ => rfl | 4, _ => rfl | 5, _ => rfl | 6, _ => rfl | 7, _ => rfl | 8, _ => rfl | 9, _ => rfl | 10, _ => rfl | 11, _ => rfl | _ + 12, h => absurd h (by omega)) dX1_init_26 ⟨Nat.le_of_ble_eq_true rfl, Nat.le_of_ble_eq_true rfl⟩ (fun q4 => ?_)
  refine g_dup cx dX1_init_29 rfl ?_
  refine g_initv (rest := [.ref q4, .int 2, .ref q1]) (As := []) cx (c_X3_init V q4) (Or.inl ml_X1_17) mw_X3_init rfl dX1_init_30 rfl rfl (Nat.le_of_ble_eq_true rfl) ⟨Nat.le_of_ble_eq_true rfl, Nat.le_of_ble_eq_true rfl⟩ ⟨Nat.le_of_ble_eq_true rfl, Nat.le_of_ble_eq_true rfl⟩ (fun w hw => ?_)
  obtain ⟨a3, ha3, rfl⟩ := hw
  subst ha3
  refine g_bl (Ws' := [[(h0, .inr (1, [.ref q1, .int 0, .int 0]))], [(q1, .inl (V.2.2 2, 6, .inr (.inr (.inr (.inr (va_up (va_up (fun _ => none) 0 (some (a1 0))) 1 (some (a2 0))))))))], wRing V a1 rIni, wRing V a2 rIni, wRing V a3 rIni]) rfl ?_
  refine b_aast (blk' := [(q1, .inl (V.2.2 2, 6, .inr (.inr (.inr (.inr (va_up (va_up (va_up (fun _ => none) 0 (some (a1 0))) 1 (some (a2 0))) 2 (some (a3 0))))))))]) (Ws' := [[(h0, .inr (1, [.ref q1, .int 0, .int 0]))], [(q1, .inl (V.2.2 2, 6, .inr (.inr (.inr (.inr (va_up (va_up (va_up (fun _ => none) 0 (some (a1 0))) 1 (some (a2 0))) 2 (some (a3 0))))))))], wRing V a1 rIni, wRing V a2 rIni, wRing V a3 rIni]) cx dX1_init_33 1 0 4 0 2 rfl rfl rfl rfl (nl 2) (by decide) (by decide) rfl rfl ?_
  refine g_iinc (x := 2) (v := 3) (lv' := [(0, .ref h0), (1, .int 3)]) cx dX1_init_34 rfl (by decide) rfl rfl ?_
  refine g_goto cx 15 dX1_init_37 (by decide) ?_
  refine g_iload_n (v := 3) cx dX1_init_15 rfl ?_
  refine g_bipush (v := 6) cx dX1_init_16 (by decide) ?_
  refine g_icmp_ge cx 40 dX1_init_18 (by decide) (fun hw4 => absurd hw4 (by decide)) (fun hw4 => ?_)
  refine g_aload_n (v := h0) cx dX1_init_21 rfl ?_
  refine b_get (v := .ref q1) cx fk_X1_11 dX1_init_22 0 0 rfl rfl rfl ?_
  refine g_iload_n (v := 3) cx dX1_init_25 rfl ?_
  refine g_new (ci := 3) (fs := [.null, .null, .null, .null, .null, .int 0, .int 0, .int 0, .int 0, .int 0, .int 0, .int 0]) cx tyX3 tyX3_ok i_X3 kw_X1_9 nw_X3 zw_X3 rfl (fun j hj => match j, hj with | 0, _ => rfl | 1, _ => rfl | 2, _ => rfl | 3, _ => rfl | 4, _ => rfl | 5, _ => rfl | 6, _ => rfl | 7, _ => rfl | 8, _ => rfl | 9, _ => rfl | 10, _ => rfl | 11, _ => rfl | _ + 12, h => absurd h (by omega)) dX1_init_26 ⟨Nat.le_of_ble_eq_true rfl, Nat.le_of_ble_eq_true rfl⟩ (fun q5 => ?_)
  refine g_dup cx dX1_init_29 rfl ?_
  refine g_initv (rest := [.ref q5, .int 3, .ref q1]) (As := []) cx (c_X3_init V q5) (Or.inl ml_X1_17) mw_X3_init rfl dX1_init_30 rfl rfl (Nat.le_of_ble_eq_true rfl) ⟨Nat.le_of_ble_eq_true rfl, Nat.le_of_ble_eq_true rfl⟩ ⟨Nat.le_of_ble_eq_true rfl, Nat.le_of_ble_eq_true rfl⟩ (fun w hw => ?_)
  obtain ⟨a4, ha4, rfl⟩ := hw
  subst ha4
  refine g_bl (Ws' := [[(h0, .inr (1, [.ref q1, .int 0, .int 0]))], [(q1, .inl (V.2.2 2, 6, .inr (.inr (.inr (.inr (va_up (va_up (va_up (fun _ => none) 0 (some (a1 0))) 1 (some (a2 0))) 2 (some (a3 0))))))))], wRing V a1 rIni, wRing V a2 rIni, wRing V a3 rIni, wRing V a4 rIni]) rfl ?_
  refine b_aast (blk' := [(q1, .inl (V.2.2 2, 6, .inr (.inr (.inr (.inr (va_up (va_up (va_up (va_up (fun _ => none) 0 (some (a1 0))) 1 (some (a2 0))) 2 (some (a3 0))) 3 (some (a4 0))))))))]) (Ws' := [[(h0, .inr (1, [.ref q1, .int 0, .int 0]))], [(q1, .inl (V.2.2 2, 6, .inr (.inr (.inr (.inr (va_up (va_up (va_up (va_up (fun _ => none) 0 (some (a1 0))) 1 (some (a2 0))) 2 (some (a3 0))) 3 (some (a4 0))))))))], wRing V a1 rIni, wRing V a2 rIni, wRing V a3 rIni, wRing V a4 rIni]) cx dX1_init_33 1 0 5 0 3 rfl rfl rfl rfl (nl 3) (by decide) (by decide) rfl rfl ?_
  refine g_iinc (x := 3) (v := 4) (lv' := [(0, .ref h0), (1, .int 4)]) cx dX1_init_34 rfl (by decide) rfl rfl ?_
  refine g_goto cx 15 dX1_init_37 (by decide) ?_
  refine g_iload_n (v := 4) cx dX1_init_15 rfl ?_
  refine g_bipush (v := 6) cx dX1_init_16 (by decide) ?_
  refine g_icmp_ge cx 40 dX1_init_18 (by decide) (fun hw5 => absurd hw5 (by decide)) (fun hw5 => ?_)
  refine g_aload_n (v := h0) cx dX1_init_21 rfl ?_
  refine b_get (v := .ref q1) cx fk_X1_11 dX1_init_22 0 0 rfl rfl rfl ?_
  refine g_iload_n (v := 4) cx dX1_init_25 rfl ?_
  refine g_new (ci := 3) (fs := [.null, .null, .null, .null, .null, .int 0, .int 0, .int 0, .int 0, .int 0, .int 0, .int 0]) cx tyX3 tyX3_ok i_X3 kw_X1_9 nw_X3 zw_X3 rfl (fun j hj => match j, hj with | 0, _ => rfl | 1, _ => rfl | 2, _ => rfl | 3, _ => rfl | 4, _ => rfl | 5, _ => rfl | 6, _ => rfl | 7, _ => rfl | 8, _ => rfl | 9, _ => rfl | 10, _ => rfl | 11, _ => rfl | _ + 12, h => absurd h (by omega)) dX1_init_26 ⟨Nat.le_of_ble_eq_true rfl, Nat.le_of_ble_eq_true rfl⟩ (fun q6 => ?_)
  refine g_dup cx dX1_init_29 rfl ?_
  refine g_initv (rest := [.ref q6, .int 4, .ref q1]) (As := []) cx (c_X3_init V q6) (Or.inl ml_X1_17) mw_X3_init rfl dX1_init_30 rfl rfl (Nat.le_of_ble_eq_true rfl) ⟨Nat.le_of_ble_eq_true rfl, Nat.le_of_ble_eq_true rfl⟩ ⟨Nat.le_of_ble_eq_true rfl, Nat.le_of_ble_eq_true rfl⟩ (fun w hw => ?_)
  obtain ⟨a5, ha5, rfl⟩ := hw
  subst ha5
  refine g_bl (Ws' := [[(h0, .inr (1, [.ref q1, .int 0, .int 0]))], [(q1, .inl (V.2.2 2, 6, .inr (.inr (.inr (.inr (va_up (va_up (va_up (va_up (fun _ => none) 0 (some (a1 0))) 1 (some (a2 0))) 2 (some (a3 0))) 3 (some (a4 0))))))))], wRing V a1 rIni, wRing V a2 rIni, wRing V a3 rIni, wRing V a4 rIni, wRing V a5 rIni]) rfl ?_
  refine b_aast (blk' := [(q1, .inl (V.2.2 2, 6, .inr (.inr (.inr (.inr (va_up (va_up (va_up (va_up (va_up (fun _ => none) 0 (some (a1 0))) 1 (some (a2 0))) 2 (some (a3 0))) 3 (some (a4 0))) 4 (some (a5 0))))))))]) (Ws' := [[(h0, .inr (1, [.ref q1, .int 0, .int 0]))], [(q1, .inl (V.2.2 2, 6, .inr (.inr (.inr (.inr (va_up (va_up (va_up (va_up (va_up (fun _ => none) 0 (some (a1 0))) 1 (some (a2 0))) 2 (some (a3 0))) 3 (some (a4 0))) 4 (some (a5 0))))))))], wRing V a1 rIni, wRing V a2 rIni, wRing V a3 rIni, wRing V a4 rIni, wRing V a5 rIni]) cx dX1_init_33 1 0 6 0 4 rfl rfl rfl rfl (nl 4) (by decide) (by decide) rfl rfl ?_
  refine g_iinc (x := 4) (v := 5) (lv' := [(0, .ref h0), (1, .int 5)]) cx dX1_init_34 rfl (by decide) rfl rfl ?_
  refine g_goto cx 15 dX1_init_37 (by decide) ?_
  refine g_iload_n (v := 5) cx dX1_init_15 rfl ?_
  refine g_bipush (v := 6) cx dX1_init_16 (by decide) ?_
  refine g_icmp_ge cx 40 dX1_init_18 (by decide) (fun hw6 => absurd hw6 (by decide)) (fun hw6 => ?_)
  refine g_aload_n (v := h0) cx dX1_init_21 rfl ?_
  refine b_get (v := .ref q1) cx fk_X1_11 dX1_init_22 0 0 rfl rfl rfl ?_
  refine g_iload_n (v := 5) cx dX1_init_25 rfl ?_
  refine g_new (ci := 3) (fs := [.null, .null, .null, .null, .null, .int 0, .int 0, .int 0, .int 0, .int 0, .int 0, .int 0]) cx tyX3 tyX3_ok i_X3 kw_X1_9 nw_X3 zw_X3 rfl (fun j hj => match j, hj with | 0, _ => rfl | 1, _ => rfl | 2, _ => rfl | 3, _ => rfl | 4, _ => rfl | 5, _ => rfl | 6, _ => rfl | 7, _ => rfl | 8, _ => rfl | 9, _ => rfl | 10, _ => rfl | 11, _ => rfl | _ + 12, h => absurd h (by omega)) dX1_init_26 ⟨Nat.le_of_ble_eq_true rfl, Nat.le_of_ble_eq_true rfl⟩ (fun q7 => ?_)
  refine g_dup cx dX1_init_29 rfl ?_
  refine g_initv (rest := [.ref q7, .int 5, .ref q1]) (As := []) cx (c_X3_init V q7) (Or.inl ml_X1_17) mw_X3_init rfl dX1_init_30 rfl rfl (Nat.le_of_ble_eq_true rfl) ⟨Nat.le_of_ble_eq_true rfl, Nat.le_of_ble_eq_true rfl⟩ ⟨Nat.le_of_ble_eq_true rfl, Nat.le_of_ble_eq_true rfl⟩ (fun w hw => ?_)
  obtain ⟨a6, ha6, rfl⟩ := hw
  subst ha6
  refine g_bl (Ws' := [[(h0, .inr (1, [.ref q1, .int 0, .int 0]))], [(q1, .inl (V.2.2 2, 6, .inr (.inr (.inr (.inr (va_up (va_up (va_up (va_up (va_up (fun _ => none) 0 (some (a1 0))) 1 (some (a2 0))) 2 (some (a3 0))) 3 (some (a4 0))) 4 (some (a5 0))))))))], wRing V a1 rIni, wRing V a2 rIni, wRing V a3 rIni, wRing V a4 rIni, wRing V a5 rIni, wRing V a6 rIni]) rfl ?_
  refine b_aast (blk' := [(q1, .inl (V.2.2 2, 6, .inr (.inr (.inr (.inr (va_up (va_up (va_up (va_up (va_up (va_up (fun _ => none) 0 (some (a1 0))) 1 (some (a2 0))) 2 (some (a3 0))) 3 (some (a4 0))) 4 (some (a5 0))) 5 (some (a6 0))))))))]) (Ws' := [[(h0, .inr (1, [.ref q1, .int 0, .int 0]))], [(q1, .inl (V.2.2 2, 6, .inr (.inr (.inr (.inr (va_up (va_up (va_up (va_up (va_up (va_up (fun _ => none) 0 (some (a1 0))) 1 (some (a2 0))) 2 (some (a3 0))) 3 (some (a4 0))) 4 (some (a5 0))) 5 (some (a6 0))))))))], wRing V a1 rIni, wRing V a2 rIni, wRing V a3 rIni, wRing V a4 rIni, wRing V a5 rIni, wRing V a6 rIni]) cx dX1_init_33 1 0 7 0 5 rfl rfl rfl rfl (nl 5) (by decide) (by decide) rfl rfl ?_
  refine g_iinc (x := 5) (v := 6) (lv' := [(0, .ref h0), (1, .int 6)]) cx dX1_init_34 rfl (by decide) rfl rfl ?_
  refine g_goto cx 15 dX1_init_37 (by decide) ?_
  refine g_iload_n (v := 6) cx dX1_init_15 rfl ?_
  refine g_bipush (v := 6) cx dX1_init_16 (by decide) ?_
  refine g_icmp_ge cx 40 dX1_init_18 (by decide) (fun hw7 => ?_) (fun hw7 => absurd (by decide) hw7)
  refine b_arrq (g := fun j => some (f6 (a1 0) (a2 0) (a3 0) (a4 0) (a5 0) (a6 0) j)) (blk' := wRs V q1 6 (f6 (a1 0) (a2 0) (a3 0) (a4 0) (a5 0) (a6 0))) (Ws' := [[(h0, .inr (1, [.ref q1, .int 0, .int 0]))], wRs V q1 6 (f6 (a1 0) (a2 0) (a3 0) (a4 0) (a5 0) (a6 0)), wRing V a1 rIni, wRing V a2 rIni, wRing V a3 rIni, wRing V a4 rIni, wRing V a5 rIni, wRing V a6 rIni]) 1 0 rfl rfl (fun j hj => match j, hj with | 0, _ => rfl | 1, _ => rfl | 2, _ => rfl | 3, _ => rfl | 4, _ => rfl | 5, _ => rfl | _ + 6, h => absurd h (by omega)) rfl rfl ?_
  exact hret _ _ _ dX1_init_40 (⟨q1, a1, a2, a3, a4, a5, a6, rfl⟩)
def rm_X8_init : Room := { frames := 5, cells := 88, slots := 1451, locals := 110 }
set_option maxRecDepth 100000 in
set_option maxHeartbeats 4000000 in
theorem c_X8_init (V : VT) (h0 : Nat) : CV V yX8_init cX8_init 2 rm_X8_init [.ref h0] ([(h0, .inr (8, [.null, .null, .null, .null, .null, .null, .null, .null, .null, .null, .null]))]) (fun w_ => ∃ ad : Nat → Nat → Nat, ad 12 6 = h0 ∧ w_ = List.flatten [wMain ad, wRing V (ad 0) rIni, wRing V (ad 1) rIni, wRing V (ad 2) rIni, wTx V (ad 11) (fun _ => 0) (nI 0) 0 0 0 0, wRd (ad 12 0) (ad 11 0) 0, wSd (ad 12 1) (ad 13 0) (ad 14 0) 0, wCopy V (ad 13) (fun _ _ => 0), wCopy V (ad 14) (fun _ _ => 0), wHi (ad 12 2) (ad 12 3) (nI 0) (nI 0), wRs V (ad 12 3) 6 (fun j_ => ad (5 + j_) 0), wRing V (ad 5) rIni, wRing V (ad 6) rIni, wRing V (ad 7) rIni, wRing V (ad 8) rIni, wRing V (ad 9) rIni, wRing V (ad 10) rIni, wRs V (ad 12 4) 2 (fun j_ => ad (3 + j_) 0), wRing V (ad 3) rIni, wRing V (ad 4) rIni, wKz V (ad 12 5) (fun _ => 0), wSight V (ad 15) (fun _ _ => 0), wSusp V (ad 16) (fun _ _ => 0)]) := by
  refine CV_intro (by decide) (Nat.le_of_ble_eq_true rfl) (fun K cx hci hret => ?_)
  show G V K 2 0 0 (List.flatten [[(h0, .inr (8, [.null, .null, .null, .null, .null, .null, .null, .null, .null, .null, .null]))]]) 0 [(0, .ref h0)] []
  refine g_aload_n (v := h0) cx dX8_init_0 rfl ?_
  refine g_objInit cx ml_X8_1 dX8_init_1 (Nat.le_of_ble_eq_true rfl) (Nat.le_of_ble_eq_true rfl) ?_
  refine g_aload_n (v := h0) cx dX8_init_4 rfl ?_
  refine g_new (ci := 3) (fs := [.null, .null, .null, .null, .null, .int 0, .int 0, .int 0, .int 0, .int 0, .int 0, .int 0]) cx tyX3 tyX3_ok i_X3 kw_X8_7 nw_X3 zw_X3 rfl (fun j hj => match j, hj with | 0, _ => rfl | 1, _ => rfl | 2, _ => rfl | 3, _ => rfl | 4, _ => rfl | 5, _ => rfl | 6, _ => rfl | 7, _ => rfl | 8, _ => rfl | 9, _ => rfl | 10, _ => rfl | 11, _ => rfl | _ + 12, h => absurd h (by omega)) dX8_init_5 ⟨Nat.le_of_ble_eq_true rfl, Nat.le_of_ble_eq_true rfl⟩ (fun q1 => ?_)
  refine g_dup cx dX8_init_8 rfl ?_
  refine g_initv (rest := [.ref q1, .ref h0]) (As := []) cx (c_X3_init V q1) (Or.inl ml_X8_9) mw_X3_init rfl dX8_init_9 rfl rfl (Nat.le_of_ble_eq_true rfl) ⟨Nat.le_of_ble_eq_true rfl, Nat.le_of_ble_eq_true rfl⟩ ⟨Nat.le_of_ble_eq_true rfl, Nat.le_of_ble_eq_true rfl⟩ (fun w hw => ?_)
  obtain ⟨a1, ha1, rfl⟩ := hw
  subst ha1
  refine g_bl (Ws' := [[(h0, .inr (8, [.null, .null, .null, .null, .null, .null, .null, .null, .null, .null, .null]))], wRing V a1 rIni]) rfl ?_
  refine b_putF (blk' := [(h0, .inr (8, [.ref (a1 0), .null, .null, .null, .null, .null, .null, .null, .null, .null, .null]))]) (Ws' := [[(h0, .inr (8, [.ref (a1 0), .null, .null, .null, .null, .null, .null, .null, .null, .null, .null]))], wRing V a1 rIni]) cx (hci rfl) fk_X8_10 rfl fw_X8_10 dX8_init_12 0 0 rfl rfl rfl rfl (Nat.le_of_ble_eq_true rfl) rfl rfl ?_
  refine g_aload_n (v := h0) cx dX8_init_15 rfl ?_
  refine g_new (ci := 3) (fs := [.null, .null, .null, .null, .null, .int 0, .int 0, .int 0, .int 0, .int 0, .int 0, .int 0]) cx tyX3 tyX3_ok i_X3 kw_X8_7 nw_X3 zw_X3 rfl (fun j hj => match j, hj with | 0, _ => rfl | 1, _ => rfl | 2, _ => rfl | 3, _ => rfl | 4, _ => rfl | 5, _ => rfl | 6, _ => rfl | 7, _ => rfl | 8, _ => rfl | 9, _ => rfl | 10, _ => rfl | 11, _ => rfl | _ + 12, h => absurd h (by omega)) dX8_init_16 ⟨Nat.le_of_ble_eq_true rfl, Nat.le_of_ble_eq_true rfl⟩ (fun q2 => ?_)
  refine g_dup cx dX8_init_19 rfl ?_
  refine g_initv (rest := [.ref q2, .ref h0]) (As := []) cx (c_X3_init V q2) (Or.inl ml_X8_9) mw_X3_init rfl dX8_init_20 rfl rfl (Nat.le_of_ble_eq_true rfl) ⟨Nat.le_of_ble_eq_true rfl, Nat.le_of_ble_eq_true rfl⟩ ⟨Nat.le_of_ble_eq_true rfl, Nat.le_of_ble_eq_true rfl⟩ (fun w hw => ?_)
  obtain ⟨a2, ha2, rfl⟩ := hw
  subst ha2
  refine g_bl (Ws' := [[(h0, .inr (8, [.ref (a1 0), .null, .null, .null, .null, .null, .null, .null, .null, .null, .null]))], wRing V a1 rIni, wRing V a2 rIni]) rfl ?_
  refine b_putF (blk' := [(h0, .inr (8, [.ref (a1 0), .ref (a2 0), .null, .null, .null, .null, .null, .null, .null, .null, .null]))]) (Ws' := [[(h0, .inr (8, [.ref (a1 0), .ref (a2 0), .null, .null, .null, .null, .null, .null, .null, .null, .null]))], wRing V a1 rIni, wRing V a2 rIni]) cx (hci rfl) fk_X8_16 rfl fw_X8_16 dX8_init_23 0 0 rfl rfl rfl rfl (Nat.le_of_ble_eq_true rfl) rfl rfl ?_
  refine g_aload_n (v := h0) cx dX8_init_26 rfl ?_
  refine g_new (ci := 3) (fs := [.null, .null, .null, .null, .null, .int 0, .int 0, .int 0, .int 0, .int 0, .int 0, .int 0]) cx tyX3 tyX3_ok i_X3 kw_X8_7 nw_X3 zw_X3 rfl (fun j hj => match j, hj with | 0, _ => rfl | 1, _ => rfl | 2, _ => rfl | 3, _ => rfl | 4, _ => rfl | 5, _ => rfl | 6, _ => rfl | 7, _ => rfl | 8, _ => rfl | 9, _ => rfl | 10, _ => rfl | 11, _ => rfl | _ + 12, h => absurd h (by omega)) dX8_init_27 ⟨Nat.le_of_ble_eq_true rfl, Nat.le_of_ble_eq_true rfl⟩ (fun q3 => ?_)
  refine g_dup cx dX8_init_30 rfl ?_
  refine g_initv (rest := [.ref q3, .ref h0]) (As := []) cx (c_X3_init V q3) (Or.inl ml_X8_9) mw_X3_init rfl dX8_init_31 rfl rfl (Nat.le_of_ble_eq_true rfl) ⟨Nat.le_of_ble_eq_true rfl, Nat.le_of_ble_eq_true rfl⟩ ⟨Nat.le_of_ble_eq_true rfl, Nat.le_of_ble_eq_true rfl⟩ (fun w hw => ?_)
  obtain ⟨a3, ha3, rfl⟩ := hw
  subst ha3
  refine g_bl (Ws' := [[(h0, .inr (8, [.ref (a1 0), .ref (a2 0), .null, .null, .null, .null, .null, .null, .null, .null, .null]))], wRing V a1 rIni, wRing V a2 rIni, wRing V a3 rIni]) rfl ?_
  refine b_putF (blk' := [(h0, .inr (8, [.ref (a1 0), .ref (a2 0), .ref (a3 0), .null, .null, .null, .null, .null, .null, .null, .null]))]) (Ws' := [[(h0, .inr (8, [.ref (a1 0), .ref (a2 0), .ref (a3 0), .null, .null, .null, .null, .null, .null, .null, .null]))], wRing V a1 rIni, wRing V a2 rIni, wRing V a3 rIni]) cx (hci rfl) fk_X8_19 rfl fw_X8_19 dX8_init_34 0 0 rfl rfl rfl rfl (Nat.le_of_ble_eq_true rfl) rfl rfl ?_
  refine g_aload_n (v := h0) cx dX8_init_37 rfl ?_
  refine g_new (ci := 7) (fs := [.null, .int 0, .int 0, .int 0, .int 0, .int 0]) cx tyX7 tyX7_ok i_X7 kw_X8_22 nw_X7 zw_X7 rfl (fun j hj => match j, hj with | 0, _ => rfl | 1, _ => rfl | 2, _ => rfl | 3, _ => rfl | 4, _ => rfl | 5, _ => rfl | _ + 6, h => absurd h (by omega)) dX8_init_38 ⟨Nat.le_of_ble_eq_true rfl, Nat.le_of_ble_eq_true rfl⟩ (fun q4 => ?_)
  refine g_dup cx dX8_init_41 rfl ?_
  refine g_initv (rest := [.ref q4, .ref h0]) (As := []) cx (c_X7_init V q4) (Or.inr ml_X8_24) mw_X7_init rfl dX8_init_42 rfl rfl (Nat.le_of_ble_eq_true rfl) ⟨Nat.le_of_ble_eq_true rfl, Nat.le_of_ble_eq_true rfl⟩ ⟨Nat.le_of_ble_eq_true rfl, Nat.le_of_ble_eq_true rfl⟩ (fun w hw => ?_)
  obtain ⟨a4, ha4, rfl⟩ := hw
  subst ha4
  refine g_bl (Ws' := [[(h0, .inr (8, [.ref (a1 0), .ref (a2 0), .ref (a3 0), .null, .null, .null, .null, .null, .null, .null, .null]))], wRing V a1 rIni, wRing V a2 rIni, wRing V a3 rIni, wTx V a4 (fun _ => 0) 0 0 0 0 0]) rfl ?_
  refine b_putF (blk' := [(h0, .inr (8, [.ref (a1 0), .ref (a2 0), .ref (a3 0), .ref (a4 0), .null, .null, .null, .null, .null, .null, .null]))]) (Ws' := [[(h0, .inr (8, [.ref (a1 0), .ref (a2 0), .ref (a3 0), .ref (a4 0), .null, .null, .null, .null, .null, .null, .null]))], wRing V a1 rIni, wRing V a2 rIni, wRing V a3 rIni, wTx V a4 (fun _ => 0) 0 0 0 0 0]) cx (hci rfl) fk_X8_25 rfl fw_X8_25 dX8_init_45 0 0 rfl rfl rfl rfl (Nat.le_of_ble_eq_true rfl) rfl rfl ?_
  refine g_aload_n (v := h0) cx dX8_init_48 rfl ?_
  refine g_new (ci := 2) (fs := [.null, .int 0]) cx tyX2 tyX2_ok i_X2 kw_X8_29 nw_X2 zw_X2 rfl (fun j hj => match j, hj with | 0, _ => rfl | 1, _ => rfl | _ + 2, h => absurd h (by omega)) dX8_init_49 ⟨Nat.le_of_ble_eq_true rfl, Nat.le_of_ble_eq_true rfl⟩ (fun q5 => ?_)
  refine g_dup cx dX8_init_52 rfl ?_
  refine g_aload_n (v := h0) cx dX8_init_53 rfl ?_
  refine g_get (v := .ref (a4 0)) cx fk_X8_25 dX8_init_54 0 rfl rfl ?_
  refine g_initv (rest := [.ref q5, .ref h0]) (As := [.ref (a4 0)]) cx (c_X2_init V q5 (a4 0)) (Or.inl ml_X8_31) mw_X2_init rfl dX8_init_57 rfl rfl (Nat.le_of_ble_eq_true rfl) ⟨Nat.le_of_ble_eq_true rfl, Nat.le_of_ble_eq_true rfl⟩ ⟨Nat.le_of_ble_eq_true rfl, Nat.le_of_ble_eq_true rfl⟩ (fun w hw => ?_)
  subst hw
  refine g_bl (Ws' := [[(h0, .inr (8, [.ref (a1 0), .ref (a2 0), .ref (a3 0), .ref (a4 0), .null, .null, .null, .null, .null, .null, .null]))], wRing V a1 rIni, wRing V a2 rIni, wRing V a3 rIni, wTx V a4 (fun _ => 0) 0 0 0 0 0, wRd q5 (a4 0) 0]) rfl ?_
  refine b_putF (blk' := [(h0, .inr (8, [.ref (a1 0), .ref (a2 0), .ref (a3 0), .ref (a4 0), .ref q5, .null, .null, .null, .null, .null, .null]))]) (Ws' := [[(h0, .inr (8, [.ref (a1 0), .ref (a2 0), .ref (a3 0), .ref (a4 0), .ref q5, .null, .null, .null, .null, .null, .null]))], wRing V a1 rIni, wRing V a2 rIni, wRing V a3 rIni, wTx V a4 (fun _ => 0) 0 0 0 0 0, wRd q5 (a4 0) 0]) cx (hci rfl) fk_X8_34 rfl fw_X8_34 dX8_init_60 0 0 rfl rfl rfl rfl (Nat.le_of_ble_eq_true rfl) rfl rfl ?_
  refine g_aload_n (v := h0) cx dX8_init_63 rfl ?_
  refine g_new (ci := 4) (fs := [.null, .null, .int 0]) cx tyX4 tyX4_ok i_X4 kw_X8_38 nw_X4 zw_X4 rfl (fun j hj => match j, hj with | 0, _ => rfl | 1, _ => rfl | 2, _ => rfl | _ + 3, h => absurd h (by omega)) dX8_init_64 ⟨Nat.le_of_ble_eq_true rfl, Nat.le_of_ble_eq_true rfl⟩ (fun q6 => ?_)
  refine g_dup cx dX8_init_67 rfl ?_
  refine g_initv (rest := [.ref q6, .ref h0]) (As := []) cx (c_X4_init V q6) (Or.inr ml_X8_40) mw_X4_init rfl dX8_init_68 rfl rfl (Nat.le_of_ble_eq_true rfl) ⟨Nat.le_of_ble_eq_true rfl, Nat.le_of_ble_eq_true rfl⟩ ⟨Nat.le_of_ble_eq_true rfl, Nat.le_of_ble_eq_true rfl⟩ (fun w hw => ?_)
  obtain ⟨a5, a6, rfl⟩ := hw
  refine g_bl2 (Ws' := [[(h0, .inr (8, [.ref (a1 0), .ref (a2 0), .ref (a3 0), .ref (a4 0), .ref q5, .null, .null, .null, .null, .null, .null]))], wRing V a1 rIni, wRing V a2 rIni, wRing V a3 rIni, wTx V a4 (fun _ => 0) 0 0 0 0 0, wRd q5 (a4 0) 0, wSd q6 (a5 0) (a6 0) 0, wCopy V a5 (fun _ _ => 0), wCopy V a6 (fun _ _ => 0)]) rfl ?_
  refine b_putF (blk' := [(h0, .inr (8, [.ref (a1 0), .ref (a2 0), .ref (a3 0), .ref (a4 0), .ref q5, .ref q6, .null, .null, .null, .null, .null]))]) (Ws' := [[(h0, .inr (8, [.ref (a1 0), .ref (a2 0), .ref (a3 0), .ref (a4 0), .ref q5, .ref q6, .null, .null, .null, .null, .null]))], wRing V a1 rIni, wRing V a2 rIni, wRing V a3 rIni, wTx V a4 (fun _ => 0) 0 0 0 0 0, wRd q5 (a4 0) 0, wSd q6 (a5 0) (a6 0) 0, wCopy V a5 (fun _ _ => 0), wCopy V a6 (fun _ _ => 0)]) cx (hci rfl) fk_X8_41 rfl fw_X8_41 dX8_init_71 0 0 rfl rfl rfl rfl (Nat.le_of_ble_eq_true rfl) rfl rfl ?_
  refine g_aload_n (v := h0) cx dX8_init_74 rfl ?_
  refine g_new (ci := 1) (fs := [.null, .int 0, .int 0]) cx tyX1 tyX1_ok i_X1 kw_X8_45 nw_X1 zw_X1 rfl (fun j hj => match j, hj with | 0, _ => rfl | 1, _ => rfl | 2, _ => rfl | _ + 3, h => absurd h (by omega)) dX8_init_75 ⟨Nat.le_of_ble_eq_true rfl, Nat.le_of_ble_eq_true rfl⟩ (fun q7 => ?_)
  refine g_dup cx dX8_init_78 rfl ?_
  refine g_initv (rest := [.ref q7, .ref h0]) (As := []) cx (c_X1_init V q7) (Or.inl ml_X8_47) mw_X1_init rfl dX8_init_79 rfl rfl (Nat.le_of_ble_eq_true rfl) ⟨Nat.le_of_ble_eq_true rfl, Nat.le_of_ble_eq_true rfl⟩ ⟨Nat.le_of_ble_eq_true rfl, Nat.le_of_ble_eq_true rfl⟩ (fun w hw => ?_)
  obtain ⟨a7b, a8, a9, a10, a11, a12, a13, rfl⟩ := hw
  refine g_bl2 (Ws' := [[(h0, .inr (8, [.ref (a1 0), .ref (a2 0), .ref (a3 0), .ref (a4 0), .ref q5, .ref q6, .null, .null, .null, .null, .null]))], wRing V a1 rIni, wRing V a2 rIni, wRing V a3 rIni, wTx V a4 (fun _ => 0) 0 0 0 0 0, wRd q5 (a4 0) 0, wSd q6 (a5 0) (a6 0) 0, wCopy V a5 (fun _ _ => 0), wCopy V a6 (fun _ _ => 0), wHi q7 a7b 0 0, wRs V a7b 6 (f6 (a8 0) (a9 0) (a10 0) (a11 0) (a12 0) (a13 0)), wRing V a8 rIni, wRing V a9 rIni, wRing V a10 rIni, wRing V a11 rIni, wRing V a12 rIni, wRing V a13 rIni]) rfl ?_
  refine b_putF (blk' := [(h0, .inr (8, [.ref (a1 0), .ref (a2 0), .ref (a3 0), .ref (a4 0), .ref q5, .ref q6, .ref q7, .null, .null, .null, .null]))]) (Ws' := [[(h0, .inr (8, [.ref (a1 0), .ref (a2 0), .ref (a3 0), .ref (a4 0), .ref q5, .ref q6, .ref q7, .null, .null, .null, .null]))], wRing V a1 rIni, wRing V a2 rIni, wRing V a3 rIni, wTx V a4 (fun _ => 0) 0 0 0 0 0, wRd q5 (a4 0) 0, wSd q6 (a5 0) (a6 0) 0, wCopy V a5 (fun _ _ => 0), wCopy V a6 (fun _ _ => 0), wHi q7 a7b 0 0, wRs V a7b 6 (f6 (a8 0) (a9 0) (a10 0) (a11 0) (a12 0) (a13 0)), wRing V a8 rIni, wRing V a9 rIni, wRing V a10 rIni, wRing V a11 rIni, wRing V a12 rIni, wRing V a13 rIni]) cx (hci rfl) fk_X8_48 rfl fw_X8_48 dX8_init_82 0 0 rfl rfl rfl rfl (Nat.le_of_ble_eq_true rfl) rfl rfl ?_
  refine g_aload_n (v := h0) cx dX8_init_85 rfl ?_
  refine g_iconst (v := 2) cx dX8_init_86 (by decide) ?_
  refine g_newq cx kw_X8_7 dX8_init_87 (nl 2) (by decide) ⟨Nat.le_of_ble_eq_true rfl, Nat.le_of_ble_eq_true rfl⟩ (fun q8 => ?_)
  refine g_bl (Ws' := [[(h0, .inr (8, [.ref (a1 0), .ref (a2 0), .ref (a3 0), .ref (a4 0), .ref q5, .ref q6, .ref q7, .null, .null, .null, .null]))], wRing V a1 rIni, wRing V a2 rIni, wRing V a3 rIni, wTx V a4 (fun _ => 0) 0 0 0 0 0, wRd q5 (a4 0) 0, wSd q6 (a5 0) (a6 0) 0, wCopy V a5 (fun _ _ => 0), wCopy V a6 (fun _ _ => 0), wHi q7 a7b 0 0, wRs V a7b 6 (f6 (a8 0) (a9 0) (a10 0) (a11 0) (a12 0) (a13 0)), wRing V a8 rIni, wRing V a9 rIni, wRing V a10 rIni, wRing V a11 rIni, wRing V a12 rIni, wRing V a13 rIni, [(q8, .inl (V.2.2 2, 2, .inr (.inr (.inr (.inr (fun _ => none))))))]]) rfl ?_
  refine b_putF (blk' := [(h0, .inr (8, [.ref (a1 0), .ref (a2 0), .ref (a3 0), .ref (a4 0), .ref q5, .ref q6, .ref q7, .ref q8, .null, .null, .null]))]) (Ws' := [[(h0, .inr (8, [.ref (a1 0), .ref (a2 0), .ref (a3 0), .ref (a4 0), .ref q5, .ref q6, .ref q7, .ref q8, .null, .null, .null]))], wRing V a1 rIni, wRing V a2 rIni, wRing V a3 rIni, wTx V a4 (fun _ => 0) 0 0 0 0 0, wRd q5 (a4 0) 0, wSd q6 (a5 0) (a6 0) 0, wCopy V a5 (fun _ _ => 0), wCopy V a6 (fun _ _ => 0), wHi q7 a7b 0 0, wRs V a7b 6 (f6 (a8 0) (a9 0) (a10 0) (a11 0) (a12 0) (a13 0)), wRing V a8 rIni, wRing V a9 rIni, wRing V a10 rIni, wRing V a11 rIni, wRing V a12 rIni, wRing V a13 rIni, [(q8, .inl (V.2.2 2, 2, .inr (.inr (.inr (.inr (fun _ => none))))))]]) cx (hci rfl) fk_X8_52 rfl fw_X8_52 dX8_init_90 0 0 rfl rfl rfl rfl (Nat.le_of_ble_eq_true rfl) rfl rfl ?_
  refine g_iconst (v := 0) cx dX8_init_93 (by decide) ?_
  refine g_istore_n (lv' := [(0, .ref h0), (1, .int 0)]) cx dX8_init_94 (by decide) rfl ?_
  refine g_iload_n (v := 0) cx dX8_init_95 rfl ?_
  refine g_iconst (v := 2) cx dX8_init_96 (by decide) ?_
  refine g_icmp_ge cx 119 dX8_init_97 (by decide) (fun hw1 => absurd hw1 (by decide)) (fun hw1 => ?_)
  refine g_aload_n (v := h0) cx dX8_init_100 rfl ?_
  refine b_get (v := .ref q8) cx fk_X8_52 dX8_init_101 0 0 rfl rfl rfl ?_
  refine g_iload_n (v := 0) cx dX8_init_104 rfl ?_
  refine g_new (ci := 3) (fs := [.null, .null, .null, .null, .null, .int 0, .int 0, .int 0, .int 0, .int 0, .int 0, .int 0]) cx tyX3 tyX3_ok i_X3 kw_X8_7 nw_X3 zw_X3 rfl (fun j hj => match j, hj with | 0, _ => rfl | 1, _ => rfl | 2, _ => rfl | 3, _ => rfl | 4, _ => rfl | 5, _ => rfl | 6, _ => rfl | 7, _ => rfl | 8, _ => rfl | 9, _ => rfl | 10, _ => rfl | 11, _ => rfl | _ + 12, h => absurd h (by omega)) dX8_init_105 ⟨Nat.le_of_ble_eq_true rfl, Nat.le_of_ble_eq_true rfl⟩ (fun q9 => ?_)
  refine g_dup cx dX8_init_108 rfl ?_
  refine g_initv (rest := [.ref q9, .int 0, .ref q8]) (As := []) cx (c_X3_init V q9) (Or.inl ml_X8_9) mw_X3_init rfl dX8_init_109 rfl rfl (Nat.le_of_ble_eq_true rfl) ⟨Nat.le_of_ble_eq_true rfl, Nat.le_of_ble_eq_true rfl⟩ ⟨Nat.le_of_ble_eq_true rfl, Nat.le_of_ble_eq_true rfl⟩ (fun w hw => ?_)
  obtain ⟨a14, ha14, rfl⟩ := hw
  subst ha14
  refine g_bl (Ws' := [[(h0, .inr (8, [.ref (a1 0), .ref (a2 0), .ref (a3 0), .ref (a4 0), .ref q5, .ref q6, .ref q7, .ref q8, .null, .null, .null]))], wRing V a1 rIni, wRing V a2 rIni, wRing V a3 rIni, wTx V a4 (fun _ => 0) 0 0 0 0 0, wRd q5 (a4 0) 0, wSd q6 (a5 0) (a6 0) 0, wCopy V a5 (fun _ _ => 0), wCopy V a6 (fun _ _ => 0), wHi q7 a7b 0 0, wRs V a7b 6 (f6 (a8 0) (a9 0) (a10 0) (a11 0) (a12 0) (a13 0)), wRing V a8 rIni, wRing V a9 rIni, wRing V a10 rIni, wRing V a11 rIni, wRing V a12 rIni, wRing V a13 rIni, [(q8, .inl (V.2.2 2, 2, .inr (.inr (.inr (.inr (fun _ => none))))))], wRing V a14 rIni]) rfl ?_
  refine b_aast (blk' := [(q8, .inl (V.2.2 2, 2, .inr (.inr (.inr (.inr (va_up (fun _ => none) 0 (some (a14 0))))))))]) (Ws' := [[(h0, .inr (8, [.ref (a1 0), .ref (a2 0), .ref (a3 0), .ref (a4 0), .ref q5, .ref q6, .ref q7, .ref q8, .null, .null, .null]))], wRing V a1 rIni, wRing V a2 rIni, wRing V a3 rIni, wTx V a4 (fun _ => 0) 0 0 0 0 0, wRd q5 (a4 0) 0, wSd q6 (a5 0) (a6 0) 0, wCopy V a5 (fun _ _ => 0), wCopy V a6 (fun _ _ => 0), wHi q7 a7b 0 0, wRs V a7b 6 (f6 (a8 0) (a9 0) (a10 0) (a11 0) (a12 0) (a13 0)), wRing V a8 rIni, wRing V a9 rIni, wRing V a10 rIni, wRing V a11 rIni, wRing V a12 rIni, wRing V a13 rIni, [(q8, .inl (V.2.2 2, 2, .inr (.inr (.inr (.inr (va_up (fun _ => none) 0 (some (a14 0))))))))], wRing V a14 rIni]) cx dX8_init_112 17 0 18 0 0 rfl rfl rfl rfl (nl 0) (by decide) (by decide) rfl rfl ?_
  refine g_iinc (x := 0) (v := 1) (lv' := [(0, .ref h0), (1, .int 1)]) cx dX8_init_113 rfl (by decide) rfl rfl ?_
  refine g_goto cx 95 dX8_init_116 (by decide) ?_
  refine g_iload_n (v := 1) cx dX8_init_95 rfl ?_
  refine g_iconst (v := 2) cx dX8_init_96 (by decide) ?_
  refine g_icmp_ge cx 119 dX8_init_97 (by decide) (fun hw2 => absurd hw2 (by decide)) (fun hw2 => ?_)
  refine g_aload_n (v := h0) cx dX8_init_100 rfl ?_
  refine b_get (v := .ref q8) cx fk_X8_52 dX8_init_101 0 0 rfl rfl rfl ?_
  refine g_iload_n (v := 1) cx dX8_init_104 rfl ?_
  refine g_new (ci := 3) (fs := [.null, .null, .null, .null, .null, .int 0, .int 0, .int 0, .int 0, .int 0, .int 0, .int 0]) cx tyX3 tyX3_ok i_X3 kw_X8_7 nw_X3 zw_X3 rfl (fun j hj => match j, hj with | 0, _ => rfl | 1, _ => rfl | 2, _ => rfl | 3, _ => rfl | 4, _ => rfl | 5, _ => rfl | 6, _ => rfl | 7, _ => rfl | 8, _ => rfl | 9, _ => rfl | 10, _ => rfl | 11, _ => rfl | _ + 12, h => absurd h (by omega)) dX8_init_105 ⟨Nat.le_of_ble_eq_true rfl, Nat.le_of_ble_eq_true rfl⟩ (fun q10 => ?_)
  refine g_dup cx dX8_init_108 rfl ?_
  refine g_initv (rest := [.ref q10, .int 1, .ref q8]) (As := []) cx (c_X3_init V q10) (Or.inl ml_X8_9) mw_X3_init rfl dX8_init_109 rfl rfl (Nat.le_of_ble_eq_true rfl) ⟨Nat.le_of_ble_eq_true rfl, Nat.le_of_ble_eq_true rfl⟩ ⟨Nat.le_of_ble_eq_true rfl, Nat.le_of_ble_eq_true rfl⟩ (fun w hw => ?_)
  obtain ⟨a15, ha15, rfl⟩ := hw
  subst ha15
  refine g_bl (Ws' := [[(h0, .inr (8, [.ref (a1 0), .ref (a2 0), .ref (a3 0), .ref (a4 0), .ref q5, .ref q6, .ref q7, .ref q8, .null, .null, .null]))], wRing V a1 rIni, wRing V a2 rIni, wRing V a3 rIni, wTx V a4 (fun _ => 0) 0 0 0 0 0, wRd q5 (a4 0) 0, wSd q6 (a5 0) (a6 0) 0, wCopy V a5 (fun _ _ => 0), wCopy V a6 (fun _ _ => 0), wHi q7 a7b 0 0, wRs V a7b 6 (f6 (a8 0) (a9 0) (a10 0) (a11 0) (a12 0) (a13 0)), wRing V a8 rIni, wRing V a9 rIni, wRing V a10 rIni, wRing V a11 rIni, wRing V a12 rIni, wRing V a13 rIni, [(q8, .inl (V.2.2 2, 2, .inr (.inr (.inr (.inr (va_up (fun _ => none) 0 (some (a14 0))))))))], wRing V a14 rIni, wRing V a15 rIni]) rfl ?_
  refine b_aast (blk' := [(q8, .inl (V.2.2 2, 2, .inr (.inr (.inr (.inr (va_up (va_up (fun _ => none) 0 (some (a14 0))) 1 (some (a15 0))))))))]) (Ws' := [[(h0, .inr (8, [.ref (a1 0), .ref (a2 0), .ref (a3 0), .ref (a4 0), .ref q5, .ref q6, .ref q7, .ref q8, .null, .null, .null]))], wRing V a1 rIni, wRing V a2 rIni, wRing V a3 rIni, wTx V a4 (fun _ => 0) 0 0 0 0 0, wRd q5 (a4 0) 0, wSd q6 (a5 0) (a6 0) 0, wCopy V a5 (fun _ _ => 0), wCopy V a6 (fun _ _ => 0), wHi q7 a7b 0 0, wRs V a7b 6 (f6 (a8 0) (a9 0) (a10 0) (a11 0) (a12 0) (a13 0)), wRing V a8 rIni, wRing V a9 rIni, wRing V a10 rIni, wRing V a11 rIni, wRing V a12 rIni, wRing V a13 rIni, [(q8, .inl (V.2.2 2, 2, .inr (.inr (.inr (.inr (va_up (va_up (fun _ => none) 0 (some (a14 0))) 1 (some (a15 0))))))))], wRing V a14 rIni, wRing V a15 rIni]) cx dX8_init_112 17 0 19 0 1 rfl rfl rfl rfl (nl 1) (by decide) (by decide) rfl rfl ?_
  refine g_iinc (x := 1) (v := 2) (lv' := [(0, .ref h0), (1, .int 2)]) cx dX8_init_113 rfl (by decide) rfl rfl ?_
  refine g_goto cx 95 dX8_init_116 (by decide) ?_
  refine g_iload_n (v := 2) cx dX8_init_95 rfl ?_
  refine g_iconst (v := 2) cx dX8_init_96 (by decide) ?_
  refine g_icmp_ge cx 119 dX8_init_97 (by decide) (fun hw3 => ?_) (fun hw3 => absurd (by decide) hw3)
  refine g_aload_n (v := h0) cx dX8_init_119 rfl ?_
  refine g_iconst (v := 2) cx dX8_init_120 (by decide) ?_
  refine g_newz cx dX8_init_121 (nl 2) (by decide) ⟨Nat.le_of_ble_eq_true rfl, Nat.le_of_ble_eq_true rfl⟩ (fun q11 => ?_)
  refine g_bl (Ws' := [[(h0, .inr (8, [.ref (a1 0), .ref (a2 0), .ref (a3 0), .ref (a4 0), .ref q5, .ref q6, .ref q7, .ref q8, .null, .null, .null]))], wRing V a1 rIni, wRing V a2 rIni, wRing V a3 rIni, wTx V a4 (fun _ => 0) 0 0 0 0 0, wRd q5 (a4 0) 0, wSd q6 (a5 0) (a6 0) 0, wCopy V a5 (fun _ _ => 0), wCopy V a6 (fun _ _ => 0), wHi q7 a7b 0 0, wRs V a7b 6 (f6 (a8 0) (a9 0) (a10 0) (a11 0) (a12 0) (a13 0)), wRing V a8 rIni, wRing V a9 rIni, wRing V a10 rIni, wRing V a11 rIni, wRing V a12 rIni, wRing V a13 rIni, [(q8, .inl (V.2.2 2, 2, .inr (.inr (.inr (.inr (va_up (va_up (fun _ => none) 0 (some (a14 0))) 1 (some (a15 0))))))))], wRing V a14 rIni, wRing V a15 rIni, [(q11, .inl (V.2.2 1, 2, .inl (fun _ => 0)))]]) rfl ?_
  refine b_putF (blk' := [(h0, .inr (8, [.ref (a1 0), .ref (a2 0), .ref (a3 0), .ref (a4 0), .ref q5, .ref q6, .ref q7, .ref q8, .ref q11, .null, .null]))]) (Ws' := [[(h0, .inr (8, [.ref (a1 0), .ref (a2 0), .ref (a3 0), .ref (a4 0), .ref q5, .ref q6, .ref q7, .ref q8, .ref q11, .null, .null]))], wRing V a1 rIni, wRing V a2 rIni, wRing V a3 rIni, wTx V a4 (fun _ => 0) 0 0 0 0 0, wRd q5 (a4 0) 0, wSd q6 (a5 0) (a6 0) 0, wCopy V a5 (fun _ _ => 0), wCopy V a6 (fun _ _ => 0), wHi q7 a7b 0 0, wRs V a7b 6 (f6 (a8 0) (a9 0) (a10 0) (a11 0) (a12 0) (a13 0)), wRing V a8 rIni, wRing V a9 rIni, wRing V a10 rIni, wRing V a11 rIni, wRing V a12 rIni, wRing V a13 rIni, [(q8, .inl (V.2.2 2, 2, .inr (.inr (.inr (.inr (va_up (va_up (fun _ => none) 0 (some (a14 0))) 1 (some (a15 0))))))))], wRing V a14 rIni, wRing V a15 rIni, [(q11, .inl (V.2.2 1, 2, .inl (fun _ => 0)))]]) cx (hci rfl) fk_X8_56 rfl fw_X8_56 dX8_init_123 0 0 rfl rfl rfl rfl (Nat.le_of_ble_eq_true rfl) rfl rfl ?_
  refine g_aload_n (v := h0) cx dX8_init_126 rfl ?_
  refine g_new (ci := 5) (fs := [.null, .null, .int 0]) cx tyX5 tyX5_ok i_X5 kw_X8_60 nw_X5 zw_X5 rfl (fun j hj => match j, hj with | 0, _ => rfl | 1, _ => rfl | 2, _ => rfl | _ + 3, h => absurd h (by omega)) dX8_init_127 ⟨Nat.le_of_ble_eq_true rfl, Nat.le_of_ble_eq_true rfl⟩ (fun q12 => ?_)
  refine g_dup cx dX8_init_130 rfl ?_
  refine g_initv (rest := [.ref q12, .ref h0]) (As := []) cx (c_X5_init V q12) (Or.inr ml_X8_62) mw_X5_init rfl dX8_init_131 rfl rfl (Nat.le_of_ble_eq_true rfl) ⟨Nat.le_of_ble_eq_true rfl, Nat.le_of_ble_eq_true rfl⟩ ⟨Nat.le_of_ble_eq_true rfl, Nat.le_of_ble_eq_true rfl⟩ (fun w hw => ?_)
  obtain ⟨a16, ha16, rfl⟩ := hw
  subst ha16
  refine g_bl (Ws' := [[(h0, .inr (8, [.ref (a1 0), .ref (a2 0), .ref (a3 0), .ref (a4 0), .ref q5, .ref q6, .ref q7, .ref q8, .ref q11, .null, .null]))], wRing V a1 rIni, wRing V a2 rIni, wRing V a3 rIni, wTx V a4 (fun _ => 0) 0 0 0 0 0, wRd q5 (a4 0) 0, wSd q6 (a5 0) (a6 0) 0, wCopy V a5 (fun _ _ => 0), wCopy V a6 (fun _ _ => 0), wHi q7 a7b 0 0, wRs V a7b 6 (f6 (a8 0) (a9 0) (a10 0) (a11 0) (a12 0) (a13 0)), wRing V a8 rIni, wRing V a9 rIni, wRing V a10 rIni, wRing V a11 rIni, wRing V a12 rIni, wRing V a13 rIni, [(q8, .inl (V.2.2 2, 2, .inr (.inr (.inr (.inr (va_up (va_up (fun _ => none) 0 (some (a14 0))) 1 (some (a15 0))))))))], wRing V a14 rIni, wRing V a15 rIni, [(q11, .inl (V.2.2 1, 2, .inl (fun _ => 0)))], wSight V a16 (fun _ _ => 0)]) rfl ?_
  refine b_putF (blk' := [(h0, .inr (8, [.ref (a1 0), .ref (a2 0), .ref (a3 0), .ref (a4 0), .ref q5, .ref q6, .ref q7, .ref q8, .ref q11, .ref (a16 0), .null]))]) (Ws' := [[(h0, .inr (8, [.ref (a1 0), .ref (a2 0), .ref (a3 0), .ref (a4 0), .ref q5, .ref q6, .ref q7, .ref q8, .ref q11, .ref (a16 0), .null]))], wRing V a1 rIni, wRing V a2 rIni, wRing V a3 rIni, wTx V a4 (fun _ => 0) 0 0 0 0 0, wRd q5 (a4 0) 0, wSd q6 (a5 0) (a6 0) 0, wCopy V a5 (fun _ _ => 0), wCopy V a6 (fun _ _ => 0), wHi q7 a7b 0 0, wRs V a7b 6 (f6 (a8 0) (a9 0) (a10 0) (a11 0) (a12 0) (a13 0)), wRing V a8 rIni, wRing V a9 rIni, wRing V a10 rIni, wRing V a11 rIni, wRing V a12 rIni, wRing V a13 rIni, [(q8, .inl (V.2.2 2, 2, .inr (.inr (.inr (.inr (va_up (va_up (fun _ => none) 0 (some (a14 0))) 1 (some (a15 0))))))))], wRing V a14 rIni, wRing V a15 rIni, [(q11, .inl (V.2.2 1, 2, .inl (fun _ => 0)))], wSight V a16 (fun _ _ => 0)]) cx (hci rfl) fk_X8_63 rfl fw_X8_63 dX8_init_134 0 0 rfl rfl rfl rfl (Nat.le_of_ble_eq_true rfl) rfl rfl ?_
  refine g_aload_n (v := h0) cx dX8_init_137 rfl ?_
  refine g_new (ci := 6) (fs := [.null, .null, .int 0]) cx tyX6 tyX6_ok i_X6 kw_X8_67 nw_X6 zw_X6 rfl (fun j hj => match j, hj with | 0, _ => rfl | 1, _ => rfl | 2, _ => rfl | _ + 3, h => absurd h (by omega)) dX8_init_138 ⟨Nat.le_of_ble_eq_true rfl, Nat.le_of_ble_eq_true rfl⟩ (fun q13 => ?_)
  refine g_dup cx dX8_init_141 rfl ?_
  refine g_initv (rest := [.ref q13, .ref h0]) (As := []) cx (c_X6_init V q13) (Or.inr ml_X8_69) mw_X6_init rfl dX8_init_142 rfl rfl (Nat.le_of_ble_eq_true rfl) ⟨Nat.le_of_ble_eq_true rfl, Nat.le_of_ble_eq_true rfl⟩ ⟨Nat.le_of_ble_eq_true rfl, Nat.le_of_ble_eq_true rfl⟩ (fun w hw => ?_)
  obtain ⟨a17, ha17, rfl⟩ := hw
  subst ha17
  refine g_bl (Ws' := [[(h0, .inr (8, [.ref (a1 0), .ref (a2 0), .ref (a3 0), .ref (a4 0), .ref q5, .ref q6, .ref q7, .ref q8, .ref q11, .ref (a16 0), .null]))], wRing V a1 rIni, wRing V a2 rIni, wRing V a3 rIni, wTx V a4 (fun _ => 0) 0 0 0 0 0, wRd q5 (a4 0) 0, wSd q6 (a5 0) (a6 0) 0, wCopy V a5 (fun _ _ => 0), wCopy V a6 (fun _ _ => 0), wHi q7 a7b 0 0, wRs V a7b 6 (f6 (a8 0) (a9 0) (a10 0) (a11 0) (a12 0) (a13 0)), wRing V a8 rIni, wRing V a9 rIni, wRing V a10 rIni, wRing V a11 rIni, wRing V a12 rIni, wRing V a13 rIni, [(q8, .inl (V.2.2 2, 2, .inr (.inr (.inr (.inr (va_up (va_up (fun _ => none) 0 (some (a14 0))) 1 (some (a15 0))))))))], wRing V a14 rIni, wRing V a15 rIni, [(q11, .inl (V.2.2 1, 2, .inl (fun _ => 0)))], wSight V a16 (fun _ _ => 0), wSusp V a17 (fun _ _ => 0)]) rfl ?_
  refine b_putF (blk' := [(h0, .inr (8, [.ref (a1 0), .ref (a2 0), .ref (a3 0), .ref (a4 0), .ref q5, .ref q6, .ref q7, .ref q8, .ref q11, .ref (a16 0), .ref (a17 0)]))]) (Ws' := [[(h0, .inr (8, [.ref (a1 0), .ref (a2 0), .ref (a3 0), .ref (a4 0), .ref q5, .ref q6, .ref q7, .ref q8, .ref q11, .ref (a16 0), .ref (a17 0)]))], wRing V a1 rIni, wRing V a2 rIni, wRing V a3 rIni, wTx V a4 (fun _ => 0) 0 0 0 0 0, wRd q5 (a4 0) 0, wSd q6 (a5 0) (a6 0) 0, wCopy V a5 (fun _ _ => 0), wCopy V a6 (fun _ _ => 0), wHi q7 a7b 0 0, wRs V a7b 6 (f6 (a8 0) (a9 0) (a10 0) (a11 0) (a12 0) (a13 0)), wRing V a8 rIni, wRing V a9 rIni, wRing V a10 rIni, wRing V a11 rIni, wRing V a12 rIni, wRing V a13 rIni, [(q8, .inl (V.2.2 2, 2, .inr (.inr (.inr (.inr (va_up (va_up (fun _ => none) 0 (some (a14 0))) 1 (some (a15 0))))))))], wRing V a14 rIni, wRing V a15 rIni, [(q11, .inl (V.2.2 1, 2, .inl (fun _ => 0)))], wSight V a16 (fun _ _ => 0), wSusp V a17 (fun _ _ => 0)]) cx (hci rfl) fk_X8_70 rfl fw_X8_70 dX8_init_145 0 0 rfl rfl rfl rfl (Nat.le_of_ble_eq_true rfl) rfl rfl ?_
  obtain ⟨ad, e0, e1, e2, e3, e4, e5, e6, e7, e8, e9, e10, e11, e12, e13, e14, e15, e16, e17, e18, e19, e20, e21, e22⟩ : ∃ ad : Nat → Nat → Nat, ad 0 = a1 ∧ ad 1 = a2 ∧ ad 2 = a3 ∧ ad 3 = a14 ∧ ad 4 = a15 ∧ ad 5 = a8 ∧ ad 6 = a9 ∧ ad 7 = a10 ∧ ad 8 = a11 ∧ ad 9 = a12 ∧ ad 10 = a13 ∧ ad 11 = a4 ∧ ad 13 = a5 ∧ ad 14 = a6 ∧ ad 15 = a16 ∧ ad 16 = a17 ∧ ad 12 0 = q5 ∧ ad 12 1 = q6 ∧ ad 12 2 = q7 ∧ ad 12 3 = a7b ∧ ad 12 4 = q8 ∧ ad 12 5 = q11 ∧ ad 12 6 = h0 := ⟨fun i => match i with | 0 => a1 | 1 => a2 | 2 => a3 | 3 => a14 | 4 => a15 | 5 => a8 | 6 => a9 | 7 => a10 | 8 => a11 | 9 => a12 | 10 => a13 | 11 => a4 | 13 => a5 | 14 => a6 | 15 => a16 | 12 => (fun k => match k with | 0 => q5 | 1 => q6 | 2 => q7 | 3 => a7b | 4 => q8 | 5 => q11 | _ => h0) | _ => a17, rfl, rfl, rfl, rfl, rfl, rfl, rfl, rfl, rfl, rfl, rfl, rfl, rfl, rfl, rfl, rfl, rfl, rfl, rfl, rfl, rfl, rfl, rfl⟩
  subst e0
  subst e1
  subst e2
  subst e3
  subst e4
  subst e5
  subst e6
  subst e7
  subst e8
  subst e9
  subst e10
  subst e11
  subst e12
  subst e13
  subst e14
  subst e15
  subst e16
  subst e17
  subst e18
  subst e19
  subst e20
  subst e21
  subst e22
  refine b_arrq (g := fun j => some (ad (5 + j) 0)) (blk' := wRs V (ad 12 3) 6 (fun j_ => ad (5 + j_) 0)) (Ws' := [wMain ad, wRing V (ad 0) rIni, wRing V (ad 1) rIni, wRing V (ad 2) rIni, wTx V (ad 11) (fun _ => 0) (nI 0) 0 0 0 0, wRd (ad 12 0) (ad 11 0) 0, wSd (ad 12 1) (ad 13 0) (ad 14 0) 0, wCopy V (ad 13) (fun _ _ => 0), wCopy V (ad 14) (fun _ _ => 0), wHi (ad 12 2) (ad 12 3) (nI 0) (nI 0), wRs V (ad 12 3) 6 (fun j_ => ad (5 + j_) 0), wRing V (ad 5) rIni, wRing V (ad 6) rIni, wRing V (ad 7) rIni, wRing V (ad 8) rIni, wRing V (ad 9) rIni, wRing V (ad 10) rIni, [(ad 12 4, .inl (V.2.2 2, 2, .inr (.inr (.inr (.inr (va_up (va_up (fun _ => none) 0 (some (ad 3 0))) 1 (some (ad 4 0))))))))], wRing V (ad 3) rIni, wRing V (ad 4) rIni, wKz V (ad 12 5) (fun _ => 0), wSight V (ad 15) (fun _ _ => 0), wSusp V (ad 16) (fun _ _ => 0)]) 10 0 rfl rfl (fun j hj => match j, hj with | 0, _ => rfl | 1, _ => rfl | 2, _ => rfl | 3, _ => rfl | 4, _ => rfl | 5, _ => rfl | _ + 6, h => absurd h (by omega)) rfl rfl ?_
  refine b_arrq (g := fun j => some (ad (3 + j) 0)) (blk' := wRs V (ad 12 4) 2 (fun j_ => ad (3 + j_) 0)) (Ws' := [wMain ad, wRing V (ad 0) rIni, wRing V (ad 1) rIni, wRing V (ad 2) rIni, wTx V (ad 11) (fun _ => 0) (nI 0) 0 0 0 0, wRd (ad 12 0) (ad 11 0) 0, wSd (ad 12 1) (ad 13 0) (ad 14 0) 0, wCopy V (ad 13) (fun _ _ => 0), wCopy V (ad 14) (fun _ _ => 0), wHi (ad 12 2) (ad 12 3) (nI 0) (nI 0), wRs V (ad 12 3) 6 (fun j_ => ad (5 + j_) 0), wRing V (ad 5) rIni, wRing V (ad 6) rIni, wRing V (ad 7) rIni, wRing V (ad 8) rIni, wRing V (ad 9) rIni, wRing V (ad 10) rIni, wRs V (ad 12 4) 2 (fun j_ => ad (3 + j_) 0), wRing V (ad 3) rIni, wRing V (ad 4) rIni, wKz V (ad 12 5) (fun _ => 0), wSight V (ad 15) (fun _ _ => 0), wSusp V (ad 16) (fun _ _ => 0)]) 17 0 rfl rfl (fun j hj => match j, hj with | 0, _ => rfl | 1, _ => rfl | _ + 2, h => absurd h (by omega)) rfl rfl ?_
  exact hret _ _ _ dX8_init_148 (⟨ad, rfl, rfl⟩)
def rm_X9_init : Room := { frames := 1, cells := 15, slots := 1297, locals := 24 }
set_option maxRecDepth 100000 in
set_option maxHeartbeats 4000000 in
theorem c_X9_init (V : VT) (h0 : Nat) : CV V yX9_init cX9_init 1 rm_X9_init [.ref h0] ([(h0, .inr (9, [.null, .null, .null, .int 0, .null, .null, .null, .int 0, .int 0, .int 0, .int 0, .int 0, .null, .null, .int 0, .int 0, .null, .null, .null, .null, .null, .null, .null]))]) (fun w_ => ∃ ad : Nat → Nat, ad 0 = h0 ∧ w_ = wMo V ad (brg (upd (upd (mBeg (fun _ => 0)) 0 1) 9 1) (fun _ => 0) 0 0 99) (upd (upd (mBeg (fun _ => 0)) 0 1) 9 1) (fun _ => 0) (fun _ => 0) (fun _ => 0) (fun _ => 0) (fun _ => 0) (fun _ => 0) (fun _ => 0) (fun _ => 0) (fun _ => 0) (fun _ => 0) (fun _ => 0) (fun _ => 0) (fun _ => 0) 0 0 0 0 0 0 0 0) := by
  refine CV_intro (by decide) (Nat.le_of_ble_eq_true rfl) (fun K cx hci hret => ?_)
  show G V K 1 0 0 ([(h0, .inr (9, [.null, .null, .null, .int 0, .null, .null, .null, .int 0, .int 0, .int 0, .int 0, .int 0, .null, .null, .int 0, .int 0, .null, .null, .null, .null, .null, .null, .null]))]) 0 [(0, .ref h0)] []
  refine g_aload_n (v := h0) cx dX9_init_0 rfl ?_
  refine g_objInit cx ml_X9_1 dX9_init_1 (Nat.le_of_ble_eq_true rfl) (Nat.le_of_ble_eq_true rfl) ?_
  refine g_aload_n (v := h0) cx dX9_init_4 rfl ?_
  refine g_bipush (v := 99) cx dX9_init_5 (by decide) ?_
  refine g_newi cx dX9_init_7 (nl 99) (by decide) ⟨Nat.le_of_ble_eq_true rfl, Nat.le_of_ble_eq_true rfl⟩ (fun q1 => ?_)
  refine g_putF (ws' := [(h0, .inr (9, [.ref q1, .null, .null, .int 0, .null, .null, .null, .int 0, .int 0, .int 0, .int 0, .int 0, .null, .null, .int 0, .int 0, .null, .null, .null, .null, .null, .null, .null]))] ++ [(q1, .inl (V.2.2 0, 99, .inl (fun _ => 0)))]) cx (hci rfl) fk_X9_7 rfl fw_X9_7 dX9_init_9 0 rfl rfl rfl (Nat.le_of_ble_eq_true rfl) rfl ?_
  refine g_aload_n (v := h0) cx dX9_init_12 rfl ?_
  refine g_bipush (v := 99) cx dX9_init_13 (by decide) ?_
  refine g_newi cx dX9_init_15 (nl 99) (by decide) ⟨Nat.le_of_ble_eq_true rfl, Nat.le_of_ble_eq_true rfl⟩ (fun q2 => ?_)
  refine g_putF (ws' := [(h0, .inr (9, [.ref q1, .ref q2, .null, .int 0, .null, .null, .null, .int 0, .int 0, .int 0, .int 0, .int 0, .null, .null, .int 0, .int 0, .null, .null, .null, .null, .null, .null, .null]))] ++ [(q1, .inl (V.2.2 0, 99, .inl (fun _ => 0)))] ++ [(q2, .inl (V.2.2 0, 99, .inl (fun _ => 0)))]) cx (hci rfl) fk_X9_13 rfl fw_X9_13 dX9_init_17 0 rfl rfl rfl (Nat.le_of_ble_eq_true rfl) rfl ?_
  refine g_aload_n (v := h0) cx dX9_init_20 rfl ?_
  refine g_sipush (v := 594) cx dX9_init_21 (by decide) ?_
  refine g_newi cx dX9_init_24 (nl 594) (by decide) ⟨Nat.le_of_ble_eq_true rfl, Nat.le_of_ble_eq_true rfl⟩ (fun q3 => ?_)
  refine g_putF (ws' := [(h0, .inr (9, [.ref q1, .ref q2, .ref q3, .int 0, .null, .null, .null, .int 0, .int 0, .int 0, .int 0, .int 0, .null, .null, .int 0, .int 0, .null, .null, .null, .null, .null, .null, .null]))] ++ [(q1, .inl (V.2.2 0, 99, .inl (fun _ => 0)))] ++ [(q2, .inl (V.2.2 0, 99, .inl (fun _ => 0)))] ++ [(q3, .inl (V.2.2 0, 594, .inl (fun _ => 0)))]) cx (hci rfl) fk_X9_16 rfl fw_X9_16 dX9_init_26 0 rfl rfl rfl (Nat.le_of_ble_eq_true rfl) rfl ?_
  refine g_aload_n (v := h0) cx dX9_init_29 rfl ?_
  refine g_sipush (v := 198) cx dX9_init_30 (by decide) ?_
  refine g_newi cx dX9_init_33 (nl 198) (by decide) ⟨Nat.le_of_ble_eq_true rfl, Nat.le_of_ble_eq_true rfl⟩ (fun q4 => ?_)
  refine g_putF (ws' := [(h0, .inr (9, [.ref q1, .ref q2, .ref q3, .int 0, .ref q4, .null, .null, .int 0, .int 0, .int 0, .int 0, .int 0, .null, .null, .int 0, .int 0, .null, .null, .null, .null, .null, .null, .null]))] ++ [(q1, .inl (V.2.2 0, 99, .inl (fun _ => 0)))] ++ [(q2, .inl (V.2.2 0, 99, .inl (fun _ => 0)))] ++ [(q3, .inl (V.2.2 0, 594, .inl (fun _ => 0)))] ++ [(q4, .inl (V.2.2 0, 198, .inl (fun _ => 0)))]) cx (hci rfl) fk_X9_19 rfl fw_X9_19 dX9_init_35 0 rfl rfl rfl (Nat.le_of_ble_eq_true rfl) rfl ?_
  refine g_aload_n (v := h0) cx dX9_init_38 rfl ?_
  refine g_iconst (v := 2) cx dX9_init_39 (by decide) ?_
  refine g_newz cx dX9_init_40 (nl 2) (by decide) ⟨Nat.le_of_ble_eq_true rfl, Nat.le_of_ble_eq_true rfl⟩ (fun q5 => ?_)
  refine g_putF (ws' := [(h0, .inr (9, [.ref q1, .ref q2, .ref q3, .int 0, .ref q4, .ref q5, .null, .int 0, .int 0, .int 0, .int 0, .int 0, .null, .null, .int 0, .int 0, .null, .null, .null, .null, .null, .null, .null]))] ++ [(q1, .inl (V.2.2 0, 99, .inl (fun _ => 0)))] ++ [(q2, .inl (V.2.2 0, 99, .inl (fun _ => 0)))] ++ [(q3, .inl (V.2.2 0, 594, .inl (fun _ => 0)))] ++ [(q4, .inl (V.2.2 0, 198, .inl (fun _ => 0)))] ++ [(q5, .inl (V.2.2 1, 2, .inl (fun _ => 0)))]) cx (hci rfl) fk_X9_22 rfl fw_X9_22 dX9_init_42 0 rfl rfl rfl (Nat.le_of_ble_eq_true rfl) rfl ?_
  refine g_aload_n (v := h0) cx dX9_init_45 rfl ?_
  refine g_bipush (v := 120) cx dX9_init_46 (by decide) ?_
  refine g_newi cx dX9_init_48 (nl 120) (by decide) ⟨Nat.le_of_ble_eq_true rfl, Nat.le_of_ble_eq_true rfl⟩ (fun q6 => ?_)
  refine g_putF (ws' := [(h0, .inr (9, [.ref q1, .ref q2, .ref q3, .int 0, .ref q4, .ref q5, .ref q6, .int 0, .int 0, .int 0, .int 0, .int 0, .null, .null, .int 0, .int 0, .null, .null, .null, .null, .null, .null, .null]))] ++ [(q1, .inl (V.2.2 0, 99, .inl (fun _ => 0)))] ++ [(q2, .inl (V.2.2 0, 99, .inl (fun _ => 0)))] ++ [(q3, .inl (V.2.2 0, 594, .inl (fun _ => 0)))] ++ [(q4, .inl (V.2.2 0, 198, .inl (fun _ => 0)))] ++ [(q5, .inl (V.2.2 1, 2, .inl (fun _ => 0)))] ++ [(q6, .inl (V.2.2 0, 120, .inl (fun _ => 0)))]) cx (hci rfl) fk_X9_26 rfl fw_X9_26 dX9_init_50 0 rfl rfl rfl (Nat.le_of_ble_eq_true rfl) rfl ?_
  refine g_aload_n (v := h0) cx dX9_init_53 rfl ?_
  refine g_bipush (v := 6) cx dX9_init_54 (by decide) ?_
  refine g_newi cx dX9_init_56 (nl 6) (by decide) ⟨Nat.le_of_ble_eq_true rfl, Nat.le_of_ble_eq_true rfl⟩ (fun q7 => ?_)
  refine g_putF (ws' := [(h0, .inr (9, [.ref q1, .ref q2, .ref q3, .int 0, .ref q4, .ref q5, .ref q6, .int 0, .int 0, .int 0, .int 0, .int 0, .ref q7, .null, .int 0, .int 0, .null, .null, .null, .null, .null, .null, .null]))] ++ [(q1, .inl (V.2.2 0, 99, .inl (fun _ => 0)))] ++ [(q2, .inl (V.2.2 0, 99, .inl (fun _ => 0)))] ++ [(q3, .inl (V.2.2 0, 594, .inl (fun _ => 0)))] ++ [(q4, .inl (V.2.2 0, 198, .inl (fun _ => 0)))] ++ [(q5, .inl (V.2.2 1, 2, .inl (fun _ => 0)))] ++ [(q6, .inl (V.2.2 0, 120, .inl (fun _ => 0)))] ++ [(q7, .inl (V.2.2 0, 6, .inl (fun _ => 0)))]) cx (hci rfl) fk_X9_29 rfl fw_X9_29 dX9_init_58 0 rfl rfl rfl (Nat.le_of_ble_eq_true rfl) rfl ?_
  refine g_aload_n (v := h0) cx dX9_init_61 rfl ?_
  refine g_bipush (v := 6) cx dX9_init_62 (by decide) ?_
  refine g_newi cx dX9_init_64 (nl 6) (by decide) ⟨Nat.le_of_ble_eq_true rfl, Nat.le_of_ble_eq_true rfl⟩ (fun q8 => ?_)
  refine g_putF (ws' := [(h0, .inr (9, [.ref q1, .ref q2, .ref q3, .int 0, .ref q4, .ref q5, .ref q6, .int 0, .int 0, .int 0, .int 0, .int 0, .ref q7, .ref q8, .int 0, .int 0, .null, .null, .null, .null, .null, .null, .null]))] ++ [(q1, .inl (V.2.2 0, 99, .inl (fun _ => 0)))] ++ [(q2, .inl (V.2.2 0, 99, .inl (fun _ => 0)))] ++ [(q3, .inl (V.2.2 0, 594, .inl (fun _ => 0)))] ++ [(q4, .inl (V.2.2 0, 198, .inl (fun _ => 0)))] ++ [(q5, .inl (V.2.2 1, 2, .inl (fun _ => 0)))] ++ [(q6, .inl (V.2.2 0, 120, .inl (fun _ => 0)))] ++ [(q7, .inl (V.2.2 0, 6, .inl (fun _ => 0)))] ++ [(q8, .inl (V.2.2 0, 6, .inl (fun _ => 0)))]) cx (hci rfl) fk_X9_32 rfl fw_X9_32 dX9_init_66 0 rfl rfl rfl (Nat.le_of_ble_eq_true rfl) rfl ?_
  refine g_aload_n (v := h0) cx dX9_init_69 rfl ?_
  refine g_bipush (v := 8) cx dX9_init_70 (by decide) ?_
  refine g_newi cx dX9_init_72 (nl 8) (by decide) ⟨Nat.le_of_ble_eq_true rfl, Nat.le_of_ble_eq_true rfl⟩ (fun q9 => ?_)
  refine g_putF (ws' := [(h0, .inr (9, [.ref q1, .ref q2, .ref q3, .int 0, .ref q4, .ref q5, .ref q6, .int 0, .int 0, .int 0, .int 0, .int 0, .ref q7, .ref q8, .int 0, .int 0, .ref q9, .null, .null, .null, .null, .null, .null]))] ++ [(q1, .inl (V.2.2 0, 99, .inl (fun _ => 0)))] ++ [(q2, .inl (V.2.2 0, 99, .inl (fun _ => 0)))] ++ [(q3, .inl (V.2.2 0, 594, .inl (fun _ => 0)))] ++ [(q4, .inl (V.2.2 0, 198, .inl (fun _ => 0)))] ++ [(q5, .inl (V.2.2 1, 2, .inl (fun _ => 0)))] ++ [(q6, .inl (V.2.2 0, 120, .inl (fun _ => 0)))] ++ [(q7, .inl (V.2.2 0, 6, .inl (fun _ => 0)))] ++ [(q8, .inl (V.2.2 0, 6, .inl (fun _ => 0)))] ++ [(q9, .inl (V.2.2 0, 8, .inl (fun _ => 0)))]) cx (hci rfl) fk_X9_35 rfl fw_X9_35 dX9_init_74 0 rfl rfl rfl (Nat.le_of_ble_eq_true rfl) rfl ?_
  refine g_aload_n (v := h0) cx dX9_init_77 rfl ?_
  refine g_bipush (v := 8) cx dX9_init_78 (by decide) ?_
  refine g_newi cx dX9_init_80 (nl 8) (by decide) ⟨Nat.le_of_ble_eq_true rfl, Nat.le_of_ble_eq_true rfl⟩ (fun q10 => ?_)
  refine g_putF (ws' := [(h0, .inr (9, [.ref q1, .ref q2, .ref q3, .int 0, .ref q4, .ref q5, .ref q6, .int 0, .int 0, .int 0, .int 0, .int 0, .ref q7, .ref q8, .int 0, .int 0, .ref q9, .ref q10, .null, .null, .null, .null, .null]))] ++ [(q1, .inl (V.2.2 0, 99, .inl (fun _ => 0)))] ++ [(q2, .inl (V.2.2 0, 99, .inl (fun _ => 0)))] ++ [(q3, .inl (V.2.2 0, 594, .inl (fun _ => 0)))] ++ [(q4, .inl (V.2.2 0, 198, .inl (fun _ => 0)))] ++ [(q5, .inl (V.2.2 1, 2, .inl (fun _ => 0)))] ++ [(q6, .inl (V.2.2 0, 120, .inl (fun _ => 0)))] ++ [(q7, .inl (V.2.2 0, 6, .inl (fun _ => 0)))] ++ [(q8, .inl (V.2.2 0, 6, .inl (fun _ => 0)))] ++ [(q9, .inl (V.2.2 0, 8, .inl (fun _ => 0)))] ++ [(q10, .inl (V.2.2 0, 8, .inl (fun _ => 0)))]) cx (hci rfl) fk_X9_38 rfl fw_X9_38 dX9_init_82 0 rfl rfl rfl (Nat.le_of_ble_eq_true rfl) rfl ?_
  refine g_aload_n (v := h0) cx dX9_init_85 rfl ?_
  refine g_iconst (v := 4) cx dX9_init_86 (by decide) ?_
  refine g_newi cx dX9_init_87 (nl 4) (by decide) ⟨Nat.le_of_ble_eq_true rfl, Nat.le_of_ble_eq_true rfl⟩ (fun q11 => ?_)
  refine g_putF (ws' := [(h0, .inr (9, [.ref q1, .ref q2, .ref q3, .int 0, .ref q4, .ref q5, .ref q6, .int 0, .int 0, .int 0, .int 0, .int 0, .ref q7, .ref q8, .int 0, .int 0, .ref q9, .ref q10, .ref q11, .null, .null, .null, .null]))] ++ [(q1, .inl (V.2.2 0, 99, .inl (fun _ => 0)))] ++ [(q2, .inl (V.2.2 0, 99, .inl (fun _ => 0)))] ++ [(q3, .inl (V.2.2 0, 594, .inl (fun _ => 0)))] ++ [(q4, .inl (V.2.2 0, 198, .inl (fun _ => 0)))] ++ [(q5, .inl (V.2.2 1, 2, .inl (fun _ => 0)))] ++ [(q6, .inl (V.2.2 0, 120, .inl (fun _ => 0)))] ++ [(q7, .inl (V.2.2 0, 6, .inl (fun _ => 0)))] ++ [(q8, .inl (V.2.2 0, 6, .inl (fun _ => 0)))] ++ [(q9, .inl (V.2.2 0, 8, .inl (fun _ => 0)))] ++ [(q10, .inl (V.2.2 0, 8, .inl (fun _ => 0)))] ++ [(q11, .inl (V.2.2 0, 4, .inl (fun _ => 0)))]) cx (hci rfl) fk_X9_41 rfl fw_X9_41 dX9_init_89 0 rfl rfl rfl (Nat.le_of_ble_eq_true rfl) rfl ?_
  refine g_aload_n (v := h0) cx dX9_init_92 rfl ?_
  refine g_bipush (v := 6) cx dX9_init_93 (by decide) ?_
  refine g_newz cx dX9_init_95 (nl 6) (by decide) ⟨Nat.le_of_ble_eq_true rfl, Nat.le_of_ble_eq_true rfl⟩ (fun q12 => ?_)
  refine g_putF (ws' := [(h0, .inr (9, [.ref q1, .ref q2, .ref q3, .int 0, .ref q4, .ref q5, .ref q6, .int 0, .int 0, .int 0, .int 0, .int 0, .ref q7, .ref q8, .int 0, .int 0, .ref q9, .ref q10, .ref q11, .ref q12, .null, .null, .null]))] ++ [(q1, .inl (V.2.2 0, 99, .inl (fun _ => 0)))] ++ [(q2, .inl (V.2.2 0, 99, .inl (fun _ => 0)))] ++ [(q3, .inl (V.2.2 0, 594, .inl (fun _ => 0)))] ++ [(q4, .inl (V.2.2 0, 198, .inl (fun _ => 0)))] ++ [(q5, .inl (V.2.2 1, 2, .inl (fun _ => 0)))] ++ [(q6, .inl (V.2.2 0, 120, .inl (fun _ => 0)))] ++ [(q7, .inl (V.2.2 0, 6, .inl (fun _ => 0)))] ++ [(q8, .inl (V.2.2 0, 6, .inl (fun _ => 0)))] ++ [(q9, .inl (V.2.2 0, 8, .inl (fun _ => 0)))] ++ [(q10, .inl (V.2.2 0, 8, .inl (fun _ => 0)))] ++ [(q11, .inl (V.2.2 0, 4, .inl (fun _ => 0)))] ++ [(q12, .inl (V.2.2 1, 6, .inl (fun _ => 0)))]) cx (hci rfl) fk_X9_44 rfl fw_X9_44 dX9_init_97 0 rfl rfl rfl (Nat.le_of_ble_eq_true rfl) rfl ?_
  refine g_aload_n (v := h0) cx dX9_init_100 rfl ?_
  refine g_bipush (v := 6) cx dX9_init_101 (by decide) ?_
  refine g_newi cx dX9_init_103 (nl 6) (by decide) ⟨Nat.le_of_ble_eq_true rfl, Nat.le_of_ble_eq_true rfl⟩ (fun q13 => ?_)
  refine g_putF (ws' := [(h0, .inr (9, [.ref q1, .ref q2, .ref q3, .int 0, .ref q4, .ref q5, .ref q6, .int 0, .int 0, .int 0, .int 0, .int 0, .ref q7, .ref q8, .int 0, .int 0, .ref q9, .ref q10, .ref q11, .ref q12, .ref q13, .null, .null]))] ++ [(q1, .inl (V.2.2 0, 99, .inl (fun _ => 0)))] ++ [(q2, .inl (V.2.2 0, 99, .inl (fun _ => 0)))] ++ [(q3, .inl (V.2.2 0, 594, .inl (fun _ => 0)))] ++ [(q4, .inl (V.2.2 0, 198, .inl (fun _ => 0)))] ++ [(q5, .inl (V.2.2 1, 2, .inl (fun _ => 0)))] ++ [(q6, .inl (V.2.2 0, 120, .inl (fun _ => 0)))] ++ [(q7, .inl (V.2.2 0, 6, .inl (fun _ => 0)))] ++ [(q8, .inl (V.2.2 0, 6, .inl (fun _ => 0)))] ++ [(q9, .inl (V.2.2 0, 8, .inl (fun _ => 0)))] ++ [(q10, .inl (V.2.2 0, 8, .inl (fun _ => 0)))] ++ [(q11, .inl (V.2.2 0, 4, .inl (fun _ => 0)))] ++ [(q12, .inl (V.2.2 1, 6, .inl (fun _ => 0)))] ++ [(q13, .inl (V.2.2 0, 6, .inl (fun _ => 0)))]) cx (hci rfl) fk_X9_47 rfl fw_X9_47 dX9_init_105 0 rfl rfl rfl (Nat.le_of_ble_eq_true rfl) rfl ?_
  refine g_aload_n (v := h0) cx dX9_init_108 rfl ?_
  refine g_bipush (v := 99) cx dX9_init_109 (by decide) ?_
  refine g_newi cx dX9_init_111 (nl 99) (by decide) ⟨Nat.le_of_ble_eq_true rfl, Nat.le_of_ble_eq_true rfl⟩ (fun q14 => ?_)
  refine g_putF (ws' := [(h0, .inr (9, [.ref q1, .ref q2, .ref q3, .int 0, .ref q4, .ref q5, .ref q6, .int 0, .int 0, .int 0, .int 0, .int 0, .ref q7, .ref q8, .int 0, .int 0, .ref q9, .ref q10, .ref q11, .ref q12, .ref q13, .ref q14, .null]))] ++ [(q1, .inl (V.2.2 0, 99, .inl (fun _ => 0)))] ++ [(q2, .inl (V.2.2 0, 99, .inl (fun _ => 0)))] ++ [(q3, .inl (V.2.2 0, 594, .inl (fun _ => 0)))] ++ [(q4, .inl (V.2.2 0, 198, .inl (fun _ => 0)))] ++ [(q5, .inl (V.2.2 1, 2, .inl (fun _ => 0)))] ++ [(q6, .inl (V.2.2 0, 120, .inl (fun _ => 0)))] ++ [(q7, .inl (V.2.2 0, 6, .inl (fun _ => 0)))] ++ [(q8, .inl (V.2.2 0, 6, .inl (fun _ => 0)))] ++ [(q9, .inl (V.2.2 0, 8, .inl (fun _ => 0)))] ++ [(q10, .inl (V.2.2 0, 8, .inl (fun _ => 0)))] ++ [(q11, .inl (V.2.2 0, 4, .inl (fun _ => 0)))] ++ [(q12, .inl (V.2.2 1, 6, .inl (fun _ => 0)))] ++ [(q13, .inl (V.2.2 0, 6, .inl (fun _ => 0)))] ++ [(q14, .inl (V.2.2 0, 99, .inl (fun _ => 0)))]) cx (hci rfl) fk_X9_50 rfl fw_X9_50 dX9_init_113 0 rfl rfl rfl (Nat.le_of_ble_eq_true rfl) rfl ?_
  refine g_aload_n (v := h0) cx dX9_init_116 rfl ?_
  refine g_bipush (v := 42) cx dX9_init_117 (by decide) ?_
  refine g_newi cx dX9_init_119 (nl 42) (by decide) ⟨Nat.le_of_ble_eq_true rfl, Nat.le_of_ble_eq_true rfl⟩ (fun q15 => ?_)
  refine g_putF (ws' := [(h0, .inr (9, [.ref q1, .ref q2, .ref q3, .int 0, .ref q4, .ref q5, .ref q6, .int 0, .int 0, .int 0, .int 0, .int 0, .ref q7, .ref q8, .int 0, .int 0, .ref q9, .ref q10, .ref q11, .ref q12, .ref q13, .ref q14, .ref q15]))] ++ [(q1, .inl (V.2.2 0, 99, .inl (fun _ => 0)))] ++ [(q2, .inl (V.2.2 0, 99, .inl (fun _ => 0)))] ++ [(q3, .inl (V.2.2 0, 594, .inl (fun _ => 0)))] ++ [(q4, .inl (V.2.2 0, 198, .inl (fun _ => 0)))] ++ [(q5, .inl (V.2.2 1, 2, .inl (fun _ => 0)))] ++ [(q6, .inl (V.2.2 0, 120, .inl (fun _ => 0)))] ++ [(q7, .inl (V.2.2 0, 6, .inl (fun _ => 0)))] ++ [(q8, .inl (V.2.2 0, 6, .inl (fun _ => 0)))] ++ [(q9, .inl (V.2.2 0, 8, .inl (fun _ => 0)))] ++ [(q10, .inl (V.2.2 0, 8, .inl (fun _ => 0)))] ++ [(q11, .inl (V.2.2 0, 4, .inl (fun _ => 0)))] ++ [(q12, .inl (V.2.2 1, 6, .inl (fun _ => 0)))] ++ [(q13, .inl (V.2.2 0, 6, .inl (fun _ => 0)))] ++ [(q14, .inl (V.2.2 0, 99, .inl (fun _ => 0)))] ++ [(q15, .inl (V.2.2 0, 42, .inl (fun _ => 0)))]) cx (hci rfl) fk_X9_53 rfl fw_X9_53 dX9_init_121 0 rfl rfl rfl (Nat.le_of_ble_eq_true rfl) rfl ?_
  obtain ⟨ad, e0, e1, e2, e3, e4, e5, e6, e7, e8, e9, e10, e11, e12, e13, e14, e15⟩ : ∃ ad : Nat → Nat, ad 0 = h0 ∧ ad 1 = q1 ∧ ad 2 = q2 ∧ ad 3 = q3 ∧ ad 4 = q4 ∧ ad 5 = q5 ∧ ad 6 = q6 ∧ ad 7 = q7 ∧ ad 8 = q8 ∧ ad 9 = q9 ∧ ad 10 = q10 ∧ ad 11 = q11 ∧ ad 12 = q12 ∧ ad 13 = q13 ∧ ad 14 = q14 ∧ ad 15 = q15 := ⟨fun k => match k with | 0 => h0 | 1 => q1 | 2 => q2 | 3 => q3 | 4 => q4 | 5 => q5 | 6 => q6 | 7 => q7 | 8 => q8 | 9 => q9 | 10 => q10 | 11 => q11 | 12 => q12 | 13 => q13 | 14 => q14 | _ => q15, rfl, rfl, rfl, rfl, rfl, rfl, rfl, rfl, rfl, rfl, rfl, rfl, rfl, rfl, rfl, rfl⟩
  subst e0
  subst e1
  subst e2
  subst e3
  subst e4
  subst e5
  subst e6
  subst e7
  subst e8
  subst e9
  subst e10
  subst e11
  subst e12
  subst e13
  subst e14
  subst e15
  refine g_aload_n (v := ad 0) cx dX9_init_124 rfl ?_
  refine w_callv (ws' := wMo V ad (fun _ => 0) (mBeg (fun _ => 0)) (fun _ => 0) (fun _ => 0) (fun _ => 0) (fun _ => 0) (fun _ => 0) (fun _ => 0) (fun _ => 0) (fun _ => 0) (fun _ => 0) (fun _ => 0) (fun _ => 0) (fun _ => 0) (fun _ => 0) 0 0 0 0 0 0 0 0) (As := []) (rest := []) cx (c_X9_beginRead V ad (fun _ => 0) (fun _ => 0) (fun _ => 0) (fun _ => 0) (fun _ => 0) (fun _ => 0) (fun _ => 0) (fun _ => 0) (fun _ => 0) (fun _ => 0) (fun _ => 0) (fun _ => 0) (fun _ => 0) (fun _ => 0) (fun _ => 0) 0 0 0 0 0 0 0 0) ml_X9_56 dX9_init_125 (q0 := 0) rfl rfl rfl rfl rfl (Nat.le_of_ble_eq_true rfl) ⟨Nat.le_of_ble_eq_true rfl, Nat.le_of_ble_eq_true rfl⟩ ⟨Nat.le_of_ble_eq_true rfl, Nat.le_of_ble_eq_true rfl⟩ ?_
  refine g_aload_n (v := ad 0) cx dX9_init_128 rfl ?_
  refine g_get (v := .ref (ad 2)) cx fk_X9_13 dX9_init_129 0 rfl rfl ?_
  refine g_iconst (v := 0) cx dX9_init_132 (by decide) ?_
  refine g_iconst (v := 1) cx dX9_init_133 (by decide) ?_
  refine g_iast (ws' := wMo V ad (fun _ => 0) (upd (mBeg (fun _ => 0)) 0 1) (fun _ => 0) (fun _ => 0) (fun _ => 0) (fun _ => 0) (fun _ => 0) (fun _ => 0) (fun _ => 0) (fun _ => 0) (fun _ => 0) (fun _ => 0) (fun _ => 0) (fun _ => 0) (fun _ => 0) 0 0 0 0 0 0 0 0) cx dX9_init_134 2 0 rfl (nl 0) (by omega) (by first | decide | omega) rfl ?_
  refine g_aload_n (v := ad 0) cx dX9_init_135 rfl ?_
  refine g_get (v := .ref (ad 2)) cx fk_X9_13 dX9_init_136 0 rfl rfl ?_
  refine g_bipush (v := 9) cx dX9_init_139 (by decide) ?_
  refine g_iconst (v := 1) cx dX9_init_141 (by decide) ?_
  refine g_iast (ws' := wMo V ad (fun _ => 0) (upd (upd (mBeg (fun _ => 0)) 0 1) 9 1) (fun _ => 0) (fun _ => 0) (fun _ => 0) (fun _ => 0) (fun _ => 0) (fun _ => 0) (fun _ => 0) (fun _ => 0) (fun _ => 0) (fun _ => 0) (fun _ => 0) (fun _ => 0) (fun _ => 0) 0 0 0 0 0 0 0 0) cx dX9_init_142 2 9 rfl (nl 9) (by omega) (by first | decide | omega) rfl ?_
  refine g_aload_n (v := ad 0) cx dX9_init_143 rfl ?_
  refine g_get (v := .ref (ad 2)) cx fk_X9_13 dX9_init_144 0 rfl rfl ?_
  refine g_iconst (v := 0) cx dX9_init_147 (by decide) ?_
  refine g_aload_n (v := ad 0) cx dX9_init_148 rfl ?_
  refine g_get (v := .ref (ad 1)) cx fk_X9_7 dX9_init_149 0 rfl rfl ?_
  refine g_iconst (v := 0) cx dX9_init_152 (by decide) ?_
  refine k_callsv (ws' := wMo V ad (brg (upd (upd (mBeg (fun _ => 0)) 0 1) 9 1) (fun _ => 0) 0 0 99) (upd (upd (mBeg (fun _ => 0)) 0 1) 9 1) (fun _ => 0) (fun _ => 0) (fun _ => 0) (fun _ => 0) (fun _ => 0) (fun _ => 0) (fun _ => 0) (fun _ => 0) (fun _ => 0) (fun _ => 0) (fun _ => 0) (fun _ => 0) (fun _ => 0) 0 0 0 0 0 0 0 0) (As := [.ref (ad 2), .int 0, .ref (ad 1), .int 0]) (rest := []) cx (c_X9_bring V (ad 2) (ad 1) 99 99 (upd (upd (mBeg (fun _ => 0)) 0 1) 9 1) (fun _ => 0) 0 0 0 0 (nl 0) (nl 0) (by omega) (by omega) (by decide) (by decide)) ml_X9_59 dX9_init_153 [2, 1] rfl rfl [ad 2, ad 1] rfl rfl rfl rfl rfl (Nat.le_of_ble_eq_true rfl) ⟨Nat.le_of_ble_eq_true rfl, Nat.le_of_ble_eq_true rfl⟩ ⟨Nat.le_of_ble_eq_true rfl, Nat.le_of_ble_eq_true rfl⟩ ?_
  exact hret _ _ _ dX9_init_156 (⟨ad, rfl, rfl⟩)
