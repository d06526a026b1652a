def rLinks (R : S2) : Int32 := if R 5 4 = 0 then R 5 0 else R 5 0 + 1
def rm_X3_takesDrive : Room := { frames := 0, cells := 0, slots := 0, locals := 0 }
set_option maxRecDepth 100000 in
set_option maxHeartbeats 4000000 in
theorem c_X3_takesDrive (V : VT) (ad : Nat → Nat) (R : S2) : CI V yX3_takesDrive cX3_takesDrive 1 .boolean rm_X3_takesDrive [.ref (ad 0)] (wRing V ad R) (fun r_ w_ => r_ = bI (R 5 4 = 0 ∧ ¬ 6 ≤ R 5 0) ∧ w_ = wRing V ad R) := by
  refine CI_intro (by decide) (Nat.le_of_ble_eq_true rfl) (fun K cx hret => ?_)
  show G V K 1 0 0 (wRing V ad R) 0 [(0, .ref (ad 0))] []
  refine g_aload_n (v := ad 0) cx dX3_takesDrive_0 rfl ?_
  refine g_get (v := .int (R 5 4)) cx fk_X3_38 dX3_takesDrive_1 0 rfl rfl ?_
  refine g_if_ne cx 20 dX3_takesDrive_4 (by decide) (fun hw1 => ?_) (fun hw1 => ?_)
  · skip
    refine g_iconst (v := 0) cx dX3_takesDrive_20 (by decide) ?_
    exact hret _ _ _ _ dX3_takesDrive_21 (by first | rfl | exact rf_bnar) (⟨by simp only [bI, hw1, not_true_eq_false, not_false_eq_true, and_true, true_and, and_false, false_and, or_true, true_or, or_false, false_or, if_true, if_false], rfl⟩)
  · skip
    refine g_aload_n (v := ad 0) cx dX3_takesDrive_7 rfl ?_
    refine g_get (v := .int (R 5 0)) cx fk_X3_34 dX3_takesDrive_8 0 rfl rfl ?_
    refine g_bipush (v := 6) cx dX3_takesDrive_11 (by decide) ?_
    refine g_icmp_ge cx 20 dX3_takesDrive_13 (by decide) (fun hw2 => ?_) (fun hw2 => ?_)
    · skip
      refine g_iconst (v := 0) cx dX3_takesDrive_20 (by decide) ?_
      exact hret _ _ _ _ dX3_takesDrive_21 (by first | rfl | exact rf_bnar) (⟨by simp only [bI, hw1, hw2, not_true_eq_false, not_false_eq_true, and_true, true_and, and_false, false_and, or_true, true_or, or_false, false_or, if_true, if_false], rfl⟩)
    · skip
      refine g_iconst (v := 1) cx dX3_takesDrive_16 (by decide) ?_
      refine g_goto cx 21 dX3_takesDrive_17 (by decide) ?_
      exact hret _ _ _ _ dX3_takesDrive_21 (by first | rfl | exact rf_bnar) (⟨by simp only [bI, hw1, hw2, not_true_eq_false, not_false_eq_true, and_true, true_and, and_false, false_and, or_true, true_or, or_false, false_or, if_true, if_false], rfl⟩)
def rm_X3_takesClosing : Room := { frames := 0, cells := 0, slots := 0, locals := 0 }
set_option maxRecDepth 100000 in
set_option maxHeartbeats 4000000 in
theorem c_X3_takesClosing (V : VT) (ad : Nat → Nat) (R : S2) : CI V yX3_takesClosing cX3_takesClosing 1 .boolean rm_X3_takesClosing [.ref (ad 0)] (wRing V ad R) (fun r_ w_ => r_ = bI (R 5 4 = 0 ∧ ¬ R 5 0 ≤ 0) ∧ w_ = wRing V ad R) := by
  refine CI_intro (by decide) (Nat.le_of_ble_eq_true rfl) (fun K cx hret => ?_)
  show G V K 1 0 0 (wRing V ad R) 0 [(0, .ref (ad 0))] []
  refine g_aload_n (v := ad 0) cx dX3_takesClosing_0 rfl ?_
  refine g_get (v := .int (R 5 4)) cx fk_X3_38 dX3_takesClosing_1 0 rfl rfl ?_
  refine g_if_ne cx 18 dX3_takesClosing_4 (by decide) (fun hw1 => ?_) (fun hw1 => ?_)
  · skip
    refine g_iconst (v := 0) cx dX3_takesClosing_18 (by decide) ?_
    exact hret _ _ _ _ dX3_takesClosing_19 (by first | rfl | exact rf_bnar) (⟨by simp only [bI, hw1, not_true_eq_false, not_false_eq_true, and_true, true_and, and_false, false_and, or_true, true_or, or_false, false_or, if_true, if_false], rfl⟩)
  · skip
    refine g_aload_n (v := ad 0) cx dX3_takesClosing_7 rfl ?_
    refine g_get (v := .int (R 5 0)) cx fk_X3_34 dX3_takesClosing_8 0 rfl rfl ?_
    refine g_if_le cx 18 dX3_takesClosing_11 (by decide) (fun hw2 => ?_) (fun hw2 => ?_)
    · skip
      refine g_iconst (v := 0) cx dX3_takesClosing_18 (by decide) ?_
      exact hret _ _ _ _ dX3_takesClosing_19 (by first | rfl | exact rf_bnar) (⟨by simp only [bI, hw1, hw2, not_true_eq_false, not_false_eq_true, and_true, true_and, and_false, false_and, or_true, true_or, or_false, false_or, if_true, if_false], rfl⟩)
    · skip
      refine g_iconst (v := 1) cx dX3_takesClosing_14 (by decide) ?_
      refine g_goto cx 19 dX3_takesClosing_15 (by decide) ?_
      exact hret _ _ _ _ dX3_takesClosing_19 (by first | rfl | exact rf_bnar) (⟨by simp only [bI, hw1, hw2, not_true_eq_false, not_false_eq_true, and_true, true_and, and_false, false_and, or_true, true_or, or_false, false_or, if_true, if_false], rfl⟩)
def rm_X3_takesOrder : Room := { frames := 0, cells := 0, slots := 0, locals := 0 }
set_option maxRecDepth 100000 in
set_option maxHeartbeats 4000000 in
theorem c_X3_takesOrder (V : VT) (ad : Nat → Nat) (R : S2) : CI V yX3_takesOrder cX3_takesOrder 1 .boolean rm_X3_takesOrder [.ref (ad 0)] (wRing V ad R) (fun r_ w_ => r_ = bI (¬ 4 ≤ R 5 1) ∧ w_ = wRing V ad R) := by
  refine CI_intro (by decide) (Nat.le_of_ble_eq_true rfl) (fun K cx hret => ?_)
  show G V K 1 0 0 (wRing V ad R) 0 [(0, .ref (ad 0))] []
  refine g_aload_n (v := ad 0) cx dX3_takesOrder_0 rfl ?_
  refine g_get (v := .int (R 5 1)) cx fk_X3_54 dX3_takesOrder_1 0 rfl rfl ?_
  refine g_iconst (v := 4) cx dX3_takesOrder_4 (by decide) ?_
  refine g_icmp_ge cx 12 dX3_takesOrder_5 (by decide) (fun hw1 => ?_) (fun hw1 => ?_)
  · skip
    refine g_iconst (v := 0) cx dX3_takesOrder_12 (by decide) ?_
    exact hret _ _ _ _ dX3_takesOrder_13 (by first | rfl | exact rf_bnar) (⟨by simp only [bI, hw1, not_true_eq_false, not_false_eq_true, and_true, true_and, and_false, false_and, or_true, true_or, or_false, false_or, if_true, if_false], rfl⟩)
  · skip
    refine g_iconst (v := 1) cx dX3_takesOrder_8 (by decide) ?_
    refine g_goto cx 13 dX3_takesOrder_9 (by decide) ?_
    exact hret _ _ _ _ dX3_takesOrder_13 (by first | rfl | exact rf_bnar) (⟨by simp only [bI, hw1, not_true_eq_false, not_false_eq_true, and_true, true_and, and_false, false_and, or_true, true_or, or_false, false_or, if_true, if_false], rfl⟩)
def rm_X3_hasDrive : Room := { frames := 0, cells := 0, slots := 0, locals := 0 }
set_option maxRecDepth 100000 in
set_option maxHeartbeats 4000000 in
theorem c_X3_hasDrive (V : VT) (ad : Nat → Nat) (R : S2) (d : Int32) : CI V yX3_hasDrive cX3_hasDrive 2 .boolean rm_X3_hasDrive [.ref (ad 0), .int d] (wRing V ad R) (fun r_ w_ => r_ = bI (¬ d < 0 ∧ ¬ R 5 0 ≤ d) ∧ w_ = wRing V ad R) := by
  refine CI_intro (by decide) (Nat.le_of_ble_eq_true rfl) (fun K cx hret => ?_)
  show G V K 2 0 0 (wRing V ad R) 0 [(0, .ref (ad 0)), (1, .int d)] []
  refine g_iload_n (v := d) cx dX3_hasDrive_0 rfl ?_
  refine g_if_lt cx 16 dX3_hasDrive_1 (by decide) (fun hw1 => ?_) (fun hw1 => ?_)
  · skip
    refine g_iconst (v := 0) cx dX3_hasDrive_16 (by decide) ?_
    exact hret _ _ _ _ dX3_hasDrive_17 (by first | rfl | exact rf_bnar) (⟨by simp only [bI, hw1, not_true_eq_false, not_false_eq_true, and_true, true_and, and_false, false_and, or_true, true_or, or_false, false_or, if_true, if_false], rfl⟩)
  · skip
    refine g_iload_n (v := d) cx dX3_hasDrive_4 rfl ?_
    refine g_aload_n (v := ad 0) cx dX3_hasDrive_5 rfl ?_
    refine g_get (v := .int (R 5 0)) cx fk_X3_34 dX3_hasDrive_6 0 rfl rfl ?_
    refine g_icmp_ge cx 16 dX3_hasDrive_9 (by decide) (fun hw2 => ?_) (fun hw2 => ?_)
    · skip
      refine g_iconst (v := 0) cx dX3_hasDrive_16 (by decide) ?_
      exact hret _ _ _ _ dX3_hasDrive_17 (by first | rfl | exact rf_bnar) (⟨by simp only [bI, hw1, hw2, not_true_eq_false, not_false_eq_true, and_true, true_and, and_false, false_and, or_true, true_or, or_false, false_or, if_true, if_false], rfl⟩)
    · skip
      refine g_iconst (v := 1) cx dX3_hasDrive_12 (by decide) ?_
      refine g_goto cx 17 dX3_hasDrive_13 (by decide) ?_
      exact hret _ _ _ _ dX3_hasDrive_17 (by first | rfl | exact rf_bnar) (⟨by simp only [bI, hw1, hw2, not_true_eq_false, not_false_eq_true, and_true, true_and, and_false, false_and, or_true, true_or, or_false, false_or, if_true, if_false], rfl⟩)
def rm_X3_hasOrder : Room := { frames := 0, cells := 0, slots := 0, locals := 0 }
set_option maxRecDepth 100000 in
set_option maxHeartbeats 4000000 in
theorem c_X3_hasOrder (V : VT) (ad : Nat → Nat) (R : S2) (d : Int32) : CI V yX3_hasOrder cX3_hasOrder 2 .boolean rm_X3_hasOrder [.ref (ad 0), .int d] (wRing V ad R) (fun r_ w_ => r_ = bI (¬ d < 0 ∧ ¬ R 5 1 ≤ d) ∧ w_ = wRing V ad R) := by
  refine CI_intro (by decide) (Nat.le_of_ble_eq_true rfl) (fun K cx hret => ?_)
  show G V K 2 0 0 (wRing V ad R) 0 [(0, .ref (ad 0)), (1, .int d)] []
  refine g_iload_n (v := d) cx dX3_hasOrder_0 rfl ?_
  refine g_if_lt cx 16 dX3_hasOrder_1 (by decide) (fun hw1 => ?_) (fun hw1 => ?_)
  · skip
    refine g_iconst (v := 0) cx dX3_hasOrder_16 (by decide) ?_
    exact hret _ _ _ _ dX3_hasOrder_17 (by first | rfl | exact rf_bnar) (⟨by simp only [bI, hw1, not_true_eq_false, not_false_eq_true, and_true, true_and, and_false, false_and, or_true, true_or, or_false, false_or, if_true, if_false], rfl⟩)
  · skip
    refine g_iload_n (v := d) cx dX3_hasOrder_4 rfl ?_
    refine g_aload_n (v := ad 0) cx dX3_hasOrder_5 rfl ?_
    refine g_get (v := .int (R 5 1)) cx fk_X3_54 dX3_hasOrder_6 0 rfl rfl ?_
    refine g_icmp_ge cx 16 dX3_hasOrder_9 (by decide) (fun hw2 => ?_) (fun hw2 => ?_)
    · skip
      refine g_iconst (v := 0) cx dX3_hasOrder_16 (by decide) ?_
      exact hret _ _ _ _ dX3_hasOrder_17 (by first | rfl | exact rf_bnar) (⟨by simp only [bI, hw1, hw2, not_true_eq_false, not_false_eq_true, and_true, true_and, and_false, false_and, or_true, true_or, or_false, false_or, if_true, if_false], rfl⟩)
    · skip
      refine g_iconst (v := 1) cx dX3_hasOrder_12 (by decide) ?_
      refine g_goto cx 17 dX3_hasOrder_13 (by decide) ?_
      exact hret _ _ _ _ dX3_hasOrder_17 (by first | rfl | exact rf_bnar) (⟨by simp only [bI, hw1, hw2, not_true_eq_false, not_false_eq_true, and_true, true_and, and_false, false_and, or_true, true_or, or_false, false_or, if_true, if_false], rfl⟩)
def rm_X3_links : Room := { frames := 0, cells := 0, slots := 0, locals := 0 }
set_option maxRecDepth 100000 in
set_option maxHeartbeats 4000000 in
theorem c_X3_links (V : VT) (ad : Nat → Nat) (R : S2) : CI V yX3_links cX3_links 1 .int rm_X3_links [.ref (ad 0)] (wRing V ad R) (fun r_ w_ => r_ = rLinks R ∧ w_ = wRing V ad R) := by
  refine CI_intro (by decide) (Nat.le_of_ble_eq_true rfl) (fun K cx hret => ?_)
  show G V K 1 0 0 (wRing V ad R) 0 [(0, .ref (ad 0))] []
  refine g_aload_n (v := ad 0) cx dX3_links_0 rfl ?_
  refine g_get (v := .int (R 5 4)) cx fk_X3_38 dX3_links_1 0 rfl rfl ?_
  refine g_if_eq cx 16 dX3_links_4 (by decide) (fun hw1 => ?_) (fun hw1 => ?_)
  · skip
    refine g_aload_n (v := ad 0) cx dX3_links_16 rfl ?_
    refine g_get (v := .int (R 5 0)) cx fk_X3_34 dX3_links_17 0 rfl rfl ?_
    exact hret _ _ _ _ dX3_links_20 (rfl) (⟨by simp only [bI, rLinks, hw1, not_true_eq_false, not_false_eq_true, and_true, true_and, and_false, false_and, or_true, true_or, or_false, false_or, if_true, if_false], rfl⟩)
  · skip
    refine g_aload_n (v := ad 0) cx dX3_links_7 rfl ?_
    refine g_get (v := .int (R 5 0)) cx fk_X3_34 dX3_links_8 0 rfl rfl ?_
    refine g_iconst (v := 1) cx dX3_links_11 (by decide) ?_
    refine g_iadd cx dX3_links_12 ?_
    refine g_goto cx 20 dX3_links_13 (by decide) ?_
    exact hret _ _ _ _ dX3_links_20 (rfl) (⟨by simp only [bI, rLinks, hw1, not_true_eq_false, not_false_eq_true, and_true, true_and, and_false, false_and, or_true, true_or, or_false, false_or, if_true, if_false], rfl⟩)
def rm_X3_ofDrive : Room := { frames := 0, cells := 0, slots := 0, locals := 0 }
set_option maxRecDepth 100000 in
set_option maxHeartbeats 4000000 in
theorem c_X3_ofDrive (V : VT) (ad : Nat → Nat) (R : S2) (x c : Int32) (k : Nat) (hk : x * 9 + c = nI k) (hk2 : k < 54) : CI V yX3_ofDrive cX3_ofDrive 3 .int rm_X3_ofDrive [.ref (ad 0), .int x, .int c] (wRing V ad R) (fun r_ w_ => r_ = R 0 k ∧ w_ = wRing V ad R) := by
  refine CI_intro (by decide) (Nat.le_of_ble_eq_true rfl) (fun K cx hret => ?_)
  show G V K 3 0 0 (wRing V ad R) 0 [(0, .ref (ad 0)), (1, .int x), (2, .int c)] []
  refine g_aload_n (v := ad 0) cx dX3_ofDrive_0 rfl ?_
  refine g_get (v := .ref (ad 1)) cx fk_X3_9 dX3_ofDrive_1 0 rfl rfl ?_
  refine g_iload_n (v := x) cx dX3_ofDrive_4 rfl ?_
  refine g_bipush (v := 9) cx dX3_ofDrive_5 (by decide) ?_
  refine g_imul cx dX3_ofDrive_7 ?_
  refine g_iload_n (v := c) cx dX3_ofDrive_8 rfl ?_
  refine g_iadd cx dX3_ofDrive_9 ?_
  refine g_iald cx dX3_ofDrive_10 1 k rfl (hk) (hk2) (by first | decide | omega) ?_
  exact hret _ _ _ _ dX3_ofDrive_11 (rfl) ⟨rfl, rfl⟩
def rm_X3_ofLink : Room := { frames := 0, cells := 0, slots := 0, locals := 0 }
set_option maxRecDepth 100000 in
set_option maxHeartbeats 4000000 in
theorem c_X3_ofLink (V : VT) (ad : Nat → Nat) (R : S2) (x c : Int32) (k : Nat) (hk : x * 2 + c = nI k) (hk2 : k < 14) : CI V yX3_ofLink cX3_ofLink 3 .int rm_X3_ofLink [.ref (ad 0), .int x, .int c] (wRing V ad R) (fun r_ w_ => r_ = R 1 k ∧ w_ = wRing V ad R) := by
  refine CI_intro (by decide) (Nat.le_of_ble_eq_true rfl) (fun K cx hret => ?_)
  show G V K 3 0 0 (wRing V ad R) 0 [(0, .ref (ad 0)), (1, .int x), (2, .int c)] []
  refine g_aload_n (v := ad 0) cx dX3_ofLink_0 rfl ?_
  refine g_get (v := .ref (ad 2)) cx fk_X3_15 dX3_ofLink_1 0 rfl rfl ?_
  refine g_iload_n (v := x) cx dX3_ofLink_4 rfl ?_
  refine g_iconst (v := 2) cx dX3_ofLink_5 (by decide) ?_
  refine g_imul cx dX3_ofLink_6 ?_
  refine g_iload_n (v := c) cx dX3_ofLink_7 rfl ?_
  refine g_iadd cx dX3_ofLink_8 ?_
  refine g_iald cx dX3_ofLink_9 2 k rfl (hk) (hk2) (by first | decide | omega) ?_
  exact hret _ _ _ _ dX3_ofLink_10 (rfl) ⟨rfl, rfl⟩
def rm_X3_ofOrder : Room := { frames := 0, cells := 0, slots := 0, locals := 0 }
set_option maxRecDepth 100000 in
set_option maxHeartbeats 4000000 in
theorem c_X3_ofOrder (V : VT) (ad : Nat → Nat) (R : S2) (x c : Int32) (k : Nat) (hk : x * 5 + c = nI k) (hk2 : k < 20) : CI V yX3_ofOrder cX3_ofOrder 3 .int rm_X3_ofOrder [.ref (ad 0), .int x, .int c] (wRing V ad R) (fun r_ w_ => r_ = R 2 k ∧ w_ = wRing V ad R) := by
  refine CI_intro (by decide) (Nat.le_of_ble_eq_true rfl) (fun K cx hret => ?_)
  show G V K 3 0 0 (wRing V ad R) 0 [(0, .ref (ad 0)), (1, .int x), (2, .int c)] []
  refine g_aload_n (v := ad 0) cx dX3_ofOrder_0 rfl ?_
  refine g_get (v := .ref (ad 3)) cx fk_X3_18 dX3_ofOrder_1 0 rfl rfl ?_
  refine g_iload_n (v := x) cx dX3_ofOrder_4 rfl ?_
  refine g_iconst (v := 5) cx dX3_ofOrder_5 (by decide) ?_
  refine g_imul cx dX3_ofOrder_6 ?_
  refine g_iload_n (v := c) cx dX3_ofOrder_7 rfl ?_
  refine g_iadd cx dX3_ofOrder_8 ?_
  refine g_iald cx dX3_ofOrder_9 3 k rfl (hk) (hk2) (by first | decide | omega) ?_
  exact hret _ _ _ _ dX3_ofOrder_10 (rfl) ⟨rfl, rfl⟩
def rm_X3_ofResult : Room := { frames := 0, cells := 0, slots := 0, locals := 0 }
set_option maxRecDepth 100000 in
set_option maxHeartbeats 4000000 in
theorem c_X3_ofResult (V : VT) (ad : Nat → Nat) (R : S2) (x c : Int32) (k : Nat) (hk : x * 2 + c = nI k) (hk2 : k < 8) : CI V yX3_ofResult cX3_ofResult 3 .int rm_X3_ofResult [.ref (ad 0), .int x, .int c] (wRing V ad R) (fun r_ w_ => r_ = R 3 k ∧ w_ = wRing V ad R) := by
  refine CI_intro (by decide) (Nat.le_of_ble_eq_true rfl) (fun K cx hret => ?_)
  show G V K 3 0 0 (wRing V ad R) 0 [(0, .ref (ad 0)), (1, .int x), (2, .int c)] []
  refine g_aload_n (v := ad 0) cx dX3_ofResult_0 rfl ?_
  refine g_get (v := .ref (ad 4)) cx fk_X3_21 dX3_ofResult_1 0 rfl rfl ?_
  refine g_iload_n (v := x) cx dX3_ofResult_4 rfl ?_
  refine g_iconst (v := 2) cx dX3_ofResult_5 (by decide) ?_
  refine g_imul cx dX3_ofResult_6 ?_
  refine g_iload_n (v := c) cx dX3_ofResult_7 rfl ?_
  refine g_iadd cx dX3_ofResult_8 ?_
  refine g_iald cx dX3_ofResult_9 4 k rfl (hk) (hk2) (by first | decide | omega) ?_
  exact hret _ _ _ _ dX3_ofResult_10 (rfl) ⟨rfl, rfl⟩
def rm_X3_putDrive : Room := { frames := 0, cells := 0, slots := 0, locals := 0 }
set_option maxRecDepth 100000 in
set_option maxHeartbeats 4000000 in
theorem c_X3_putDrive (V : VT) (ad : Nat → Nat) (R : S2) (x c v : Int32) (k : Nat) (hk : x * 9 + c = nI k) (hk2 : k < 54) : CV V yX3_putDrive cX3_putDrive 4 rm_X3_putDrive [.ref (ad 0), .int x, .int c, .int v] (wRing V ad R) (fun w_ => w_ = wRing V ad (u2 R 0 k v)) := by
  refine CV_intro (by decide) (Nat.le_of_ble_eq_true rfl) (fun K cx hci hret => ?_)
  show G V K 4 0 0 (wRing V ad R) 0 [(0, .ref (ad 0)), (1, .int x), (2, .int c), (3, .int v)] []
  refine g_aload_n (v := ad 0) cx dX3_putDrive_0 rfl ?_
  refine g_get (v := .ref (ad 1)) cx fk_X3_9 dX3_putDrive_1 0 rfl rfl ?_
  refine g_iload_n (v := x) cx dX3_putDrive_4 rfl ?_
  refine g_bipush (v := 9) cx dX3_putDrive_5 (by decide) ?_
  refine g_imul cx dX3_putDrive_7 ?_
  refine g_iload_n (v := c) cx dX3_putDrive_8 rfl ?_
  refine g_iadd cx dX3_putDrive_9 ?_
  refine g_iload_n (v := v) cx dX3_putDrive_10 rfl ?_
  refine g_iast (ws' := wRing V ad (u2 R 0 k v)) cx dX3_putDrive_11 1 k rfl (hk) (hk2) (by first | decide | omega) rfl ?_
  exact hret _ _ _ dX3_putDrive_12 (rfl)
def rm_X3_putLink : Room := { frames := 0, cells := 0, slots := 0, locals := 0 }
set_option maxRecDepth 100000 in
set_option maxHeartbeats 4000000 in
theorem c_X3_putLink (V : VT) (ad : Nat → Nat) (R : S2) (x c v : Int32) (k : Nat) (hk : x * 2 + c = nI k) (hk2 : k < 14) : CV V yX3_putLink cX3_putLink 4 rm_X3_putLink [.ref (ad 0), .int x, .int c, .int v] (wRing V ad R) (fun w_ => w_ = wRing V ad (u2 R 1 k v)) := by
  refine CV_intro (by decide) (Nat.le_of_ble_eq_true rfl) (fun K cx hci hret => ?_)
  show G V K 4 0 0 (wRing V ad R) 0 [(0, .ref (ad 0)), (1, .int x), (2, .int c), (3, .int v)] []
  refine g_aload_n (v := ad 0) cx dX3_putLink_0 rfl ?_
  refine g_get (v := .ref (ad 2)) cx fk_X3_15 dX3_putLink_1 0 rfl rfl ?_
  refine g_iload_n (v := x) cx dX3_putLink_4 rfl ?_
  refine g_iconst (v := 2) cx dX3_putLink_5 (by decide) ?_
  refine g_imul cx dX3_putLink_6 ?_
  refine g_iload_n (v := c) cx dX3_putLink_7 rfl ?_
  refine g_iadd cx dX3_putLink_8 ?_
  refine g_iload_n (v := v) cx dX3_putLink_9 rfl ?_
  refine g_iast (ws' := wRing V ad (u2 R 1 k v)) cx dX3_putLink_10 2 k rfl (hk) (hk2) (by first | decide | omega) rfl ?_
  exact hret _ _ _ dX3_putLink_11 (rfl)
