def dn (D : S2) : Nat := (D 5 0).toNatClampNeg
def on (D : S2) : Nat := (D 5 1).toNatClampNeg
/-- lookahead: the token read from p.1 on; p.2: the last number ahead of it -/
def tS (L : Nat → Int32) (z : Nat) (p : Nat × Int32) : Nat × Int32 := (tX L z p.1, tV L z p.1 p.2)
abbrev tO (L : Nat → Int32) (z : Nat) (p : Nat × Int32) (a b : Int32) : Prop := tK L z p.1 = 256 ∧ ¬ tV L z p.1 p.2 < a ∧ tV L z p.1 p.2 ≤ b
abbrev tU (L : Nat → Int32) (z : Nat) (p : Nat × Int32) : Int32 := tV L z p.1 p.2
theorem tS_le {L : Nat → Int32} {z : Nat} {p : Nat × Int32} (h : p.1 ≤ z) : (tS L z p).1 ≤ z := tX_le h
theorem tO_ne {L : Nat → Int32} {z : Nat} {p : Nat × Int32} {a b : Int32} (h : tO L z p a b) (ha : (-1 : Int32) < a) : ¬ tU L z p = -1 := fun e => h.2.1 (by show tU L z p < a; rw [e]; exact ha)
def qDrive (L : Nat → Int32) (z : Nat) (D : S2) (p : Nat × Int32) : Bool × S2 × (Nat × Int32) :=
  if ¬ (D 5 4 = 0 ∧ ¬ 6 ≤ D 5 0) then (false, D, p)
  else if ¬ tO L z (tS L z p) 1 9 then (false, D, tS L z p)
  else if ¬ tO L z (tS L z (tS L z p)) 0 15 then (false, D, tS L z (tS L z p))
  else if ¬ tK L z (tS L z (tS L z (tS L z p))).1 = 59 then (false, D, tS L z (tS L z (tS L z p)))
  else (true, rAddDrive D (dn D) (tU L z (tS L z p)) (tU L z (tS L z (tS L z p))), tS L z (tS L z (tS L z (tS L z p))))
def qClose (L : Nat → Int32) (z : Nat) (D : S2) (p : Nat × Int32) : Bool × S2 × (Nat × Int32) :=
  if ¬ (D 5 4 = 0 ∧ ¬ D 5 0 ≤ 0) then (false, D, p)
  else if ¬ tO L z (tS L z p) 1 9 then (false, D, tS L z p)
  else if ¬ tK L z (tS L z (tS L z p)).1 = 59 then (false, D, tS L z (tS L z p))
  else (true, rCloseBy D (dn D) (tU L z (tS L z p)), tS L z (tS L z (tS L z p)))
def qLimit (L : Nat → Int32) (z : Nat) (D : S2) (lt : Int32) (p : Nat × Int32) : Bool × S2 × Int32 × (Nat × Int32) :=
  if ¬ lt = 0 then (false, D, lt, p)
  else if ¬ tO L z (tS L z p) 1 9 then (false, D, lt, tS L z p)
  else if ¬ tK L z (tS L z (tS L z p)).1 = 59 then (false, D, lt, tS L z (tS L z p))
  else (true, u2 D 5 2 (tU L z (tS L z p)), 1, tS L z (tS L z (tS L z p)))
def qItem (L : Nat → Int32) (z : Nat) (D : S2) (lt : Int32) (p : Nat × Int32) : Bool × S2 × Int32 × (Nat × Int32) :=
  if tK L z p.1 = 100 then ((qDrive L z D p).1, (qDrive L z D p).2.1, lt, (qDrive L z D p).2.2)
  else if tK L z p.1 = 122 then ((qClose L z D p).1, (qClose L z D p).2.1, lt, (qClose L z D p).2.2)
  else if tK L z p.1 = 109 then qLimit L z D lt p
  else (false, D, lt, p)
def qWire (L : Nat → Int32) (z : Nat) : Nat → S2 → Int32 → (Nat × Int32) → Bool × S2 × Int32 × (Nat × Int32)
  | 0, D, lt, p => (decide (¬ D 5 0 ≤ 0), D, lt, p)
  | f + 1, D, lt, p => if tK L z p.1 = 257 then (decide (¬ D 5 0 ≤ 0), D, lt, p)
    else if (qItem L z D lt p).1 = true then qWire L z f (qItem L z D lt p).2.1 (qItem L z D lt p).2.2.1 (qItem L z D lt p).2.2.2 else (false, (qItem L z D lt p).2)
abbrev qRwx (k : Int32) : Prop := k = 114 ∨ k = 119 ∨ k = 120
abbrev qPsb (k : Int32) : Prop := k = 112 ∨ k = 115 ∨ k = 98
/-- behind the aim: p is the lookahead at B -/
def qOrd3 (L : Nat → Int32) (z : Nat) (D : S2) (l a n : Int32) (p : Nat × Int32) : Bool × S2 × (Nat × Int32) :=
  if ¬ tO L z p 0 3 then (false, D, p)
  else if ¬ tO L z (tS L z p) 0 255 then (false, D, tS L z p)
  else if ¬ tK L z (tS L z (tS L z p)).1 = 59 then (false, D, tS L z (tS L z p))
  else (true, rAddOrder D (on D) l a n (tU L z p) (tU L z (tS L z p)), tS L z (tS L z (tS L z p)))
def qOrder (L : Nat → Int32) (z : Nat) (D : S2) (p : Nat × Int32) : Bool × S2 × (Nat × Int32) :=
  if ¬ (¬ 4 ≤ D 5 1 ∧ qRwx (tK L z p.1)) then (false, D, p)
  else if ¬ qPsb (tK L z (tS L z p).1) then (false, D, tS L z p)
  else if tK L z (tS L z p).1 = 98 then qOrd3 L z D (tK L z p.1) (tK L z (tS L z p).1) (-9) (tS L z (tS L z p))
  else if ¬ tO L z (tS L z (tS L z p)) 0 15 then (false, D, tS L z (tS L z p))
  else qOrd3 L z D (tK L z p.1) (tK L z (tS L z p).1) (tU L z (tS L z (tS L z p))) (tS L z (tS L z (tS L z p)))
def qFrame (L : Nat → Int32) (z : Nat) : Nat → S2 → (Nat × Int32) → Bool × S2 × (Nat × Int32)
  | 0, D, p => (decide (¬ D 5 1 ≤ 0), D, p)
  | f + 1, D, p => if tK L z p.1 = 257 then (decide (¬ D 5 1 ≤ 0), D, p)
    else if (qOrder L z D p).1 = true then qFrame L z f (qOrder L z D p).2.1 (qOrder L z D p).2.2 else (false, (qOrder L z D p).2)
def rm_X2_takeNumber_ok : Room := { frames := 3, cells := 0, slots := 0, locals := 62 }
set_option maxRecDepth 100000 in
set_option maxHeartbeats 4000000 in
theorem c_X2_takeNumber_ok (V : VT) (rd : Nat) (td : Nat → Nat) (L : Nat → Int32) (z : Nat) (p : Nat × Int32) (hz : z ≤ 120) (hp : p.1 ≤ z) (lt a b : Int32) (hk : tO L z p a b) : CI V yX2_takeNumber cX2_takeNumber 4 .int rm_X2_takeNumber_ok [.ref rd, .int a, .int b] (wRd rd (td 0) lt ++ wTx V td L (nI z) (nI (tX L z p.1)) (nI (tP L z p.1)) (tK L z p.1) (tV L z p.1 p.2)) (fun r_ w_ => r_ = tU L z p ∧ w_ = wRd rd (td 0) lt ++ wTx V td L (nI z) (nI (tX L z (tS L z p).1)) (nI (tP L z (tS L z p).1)) (tK L z (tS L z p).1) (tV L z (tS L z p).1 (tS L z p).2)) := by
  refine CI_intro (by decide) (Nat.le_of_ble_eq_true rfl) (fun K cx hret => ?_)
  show G V K 4 0 0 (wRd rd (td 0) lt ++ wTx V td L (nI z) (nI (tX L z p.1)) (nI (tP L z p.1)) (tK L z p.1) (tV L z p.1 p.2)) 0 [(0, .ref rd), (1, .int a), (2, .int b)] []
  refine g_aload_n (v := rd) cx dX2_takeNumber_0 rfl ?_
  refine g_get (v := .ref (td 0)) cx fk_X2_9 dX2_takeNumber_1 0 rfl rfl ?_
  refine g_get (v := .int (tK L z p.1)) cx fk_X2_29 dX2_takeNumber_4 1 rfl rfl ?_
  refine g_sipush (v := 256) cx dX2_takeNumber_7 (by decide) ?_
  refine g_icmp_ne cx 35 dX2_takeNumber_10 (by decide) (fun hw1 => absurd (hk.1) hw1) (fun hw1 => ?_)
  refine g_aload_n (v := rd) cx dX2_takeNumber_13 rfl ?_
  refine g_get (v := .ref (td 0)) cx fk_X2_9 dX2_takeNumber_14 0 rfl rfl ?_
  refine g_get (v := .int (tV L z p.1 p.2)) cx fk_X2_93 dX2_takeNumber_17 1 rfl rfl ?_
  refine g_iload_n (v := a) cx dX2_takeNumber_20 rfl ?_
  refine g_icmp_lt cx 35 dX2_takeNumber_21 (by decide) (fun hw2 => absurd hw2 (hk.2.1)) (fun hw2 => ?_)
  refine g_aload_n (v := rd) cx dX2_takeNumber_24 rfl ?_
  refine g_get (v := .ref (td 0)) cx fk_X2_9 dX2_takeNumber_25 0 rfl rfl ?_
  refine g_get (v := .int (tV L z p.1 p.2)) cx fk_X2_93 dX2_takeNumber_28 1 rfl rfl ?_
  refine g_iload_n (v := b) cx dX2_takeNumber_31 rfl ?_
  refine g_icmp_le cx 37 dX2_takeNumber_32 (by decide) (fun hw3 => ?_) (fun hw3 => absurd (hk.2.2) hw3)
  refine g_aload_n (v := rd) cx dX2_takeNumber_37 rfl ?_
  refine g_get (v := .ref (td 0)) cx fk_X2_9 dX2_takeNumber_38 0 rfl rfl ?_
  refine g_get (v := .int (tV L z p.1 p.2)) cx fk_X2_93 dX2_takeNumber_41 1 rfl rfl ?_
  refine g_istore_n (lv' := [(0, .ref rd), (1, .int a), (2, .int b), (3, .int (tV L z p.1 p.2))]) cx dX2_takeNumber_44 (by decide) rfl ?_
  refine g_aload_n (v := rd) cx dX2_takeNumber_45 rfl ?_
  refine g_get (v := .ref (td 0)) cx fk_X2_9 dX2_takeNumber_46 0 rfl rfl ?_
  refine k_callv (ws' := wRd rd (td 0) lt ++ wTx V td L (nI z) (nI (tX L z (tS L z p).1)) (nI (tP L z (tS L z p).1)) (tK L z (tS L z p).1) (tV L z (tS L z p).1 (tS L z p).2)) (As := []) (rest := []) cx (c_X7_step V td L z (tX L z p.1) (nI (tP L z p.1)) (tK L z p.1) (tV L z p.1 p.2) hz (tS_le (L := L) (hp))) ml_X2_53 dX2_takeNumber_49 [1, 2] rfl rfl [td 0, td 1] rfl rfl rfl 0 7 rfl rfl rfl rfl rfl (Nat.le_of_ble_eq_true rfl) ⟨Nat.le_of_ble_eq_true rfl, Nat.le_of_ble_eq_true rfl⟩ ⟨Nat.le_refl _, Nat.le_refl _⟩ ?_
  refine g_iload_n (v := tV L z p.1 p.2) cx dX2_takeNumber_52 rfl ?_
  exact hret _ _ _ _ dX2_takeNumber_53 (rfl) ⟨rfl, rfl⟩
def rm_X2_takeNumber_no : Room := { frames := 0, cells := 0, slots := 0, locals := 0 }
set_option maxRecDepth 100000 in
set_option maxHeartbeats 4000000 in
theorem c_X2_takeNumber_no (V : VT) (rd : Nat) (td : Nat → Nat) (L : Nat → Int32) (z : Nat) (p : Nat × Int32) (hz : z ≤ 120) (hp : p.1 ≤ z) (lt a b : Int32) (hk : ¬ tO L z p a b) : CI V yX2_takeNumber cX2_takeNumber 4 .int rm_X2_takeNumber_no [.ref rd, .int a, .int b] (wRd rd (td 0) lt ++ wTx V td L (nI z) (nI (tX L z p.1)) (nI (tP L z p.1)) (tK L z p.1) (tV L z p.1 p.2)) (fun r_ w_ => r_ = (-1) ∧ w_ = wRd rd (td 0) lt ++ wTx V td L (nI z) (nI (tX L z p.1)) (nI (tP L z p.1)) (tK L z p.1) (tV L z p.1 p.2)) := by
  refine CI_intro (by decide) (Nat.le_of_ble_eq_true rfl) (fun K cx hret => ?_)
  show G V K 4 0 0 (wRd rd (td 0) lt ++ wTx V td L (nI z) (nI (tX L z p.1)) (nI (tP L z p.1)) (tK L z p.1) (tV L z p.1 p.2)) 0 [(0, .ref rd), (1, .int a), (2, .int b)] []
  refine g_aload_n (v := rd) cx dX2_takeNumber_0 rfl ?_
  refine g_get (v := .ref (td 0)) cx fk_X2_9 dX2_takeNumber_1 0 rfl rfl ?_
  refine g_get (v := .int (tK L z p.1)) cx fk_X2_29 dX2_takeNumber_4 1 rfl rfl ?_
  refine g_sipush (v := 256) cx dX2_takeNumber_7 (by decide) ?_
  refine g_icmp_ne cx 35 dX2_takeNumber_10 (by decide) (fun hw1 => ?_) (fun hw1 => ?_)
  · skip
    refine g_iconst (v := (-1)) cx dX2_takeNumber_35 (by decide) ?_
    exact hret _ _ _ _ dX2_takeNumber_36 (rfl) ⟨rfl, rfl⟩
  · skip
    refine g_aload_n (v := rd) cx dX2_takeNumber_13 rfl ?_
    refine g_get (v := .ref (td 0)) cx fk_X2_9 dX2_takeNumber_14 0 rfl rfl ?_
    refine g_get (v := .int (tV L z p.1 p.2)) cx fk_X2_93 dX2_takeNumber_17 1 rfl rfl ?_
    refine g_iload_n (v := a) cx dX2_takeNumber_20 rfl ?_
    refine g_icmp_lt cx 35 dX2_takeNumber_21 (by decide) (fun hw2 => ?_) (fun hw2 => ?_)
    · skip
      refine g_iconst (v := (-1)) cx dX2_takeNumber_35 (by decide) ?_
      exact hret _ _ _ _ dX2_takeNumber_36 (rfl) ⟨rfl, rfl⟩
    · skip
      refine g_aload_n (v := rd) cx dX2_takeNumber_24 rfl ?_
      refine g_get (v := .ref (td 0)) cx fk_X2_9 dX2_takeNumber_25 0 rfl rfl ?_
      refine g_get (v := .int (tV L z p.1 p.2)) cx fk_X2_93 dX2_takeNumber_28 1 rfl rfl ?_
      refine g_iload_n (v := b) cx dX2_takeNumber_31 rfl ?_
      refine g_icmp_le cx 37 dX2_takeNumber_32 (by decide) (fun hw3 => ?_) (fun hw3 => ?_)
      · skip
        exact absurd ⟨hw1, hw2, hw3⟩ hk
      · skip
        refine g_iconst (v := (-1)) cx dX2_takeNumber_35 (by decide) ?_
        exact hret _ _ _ _ dX2_takeNumber_36 (rfl) ⟨rfl, rfl⟩
def rm_X2_takesEnd_ok : Room := { frames := 3, cells := 0, slots := 0, locals := 62 }
set_option maxRecDepth 100000 in
set_option maxHeartbeats 4000000 in
theorem c_X2_takesEnd_ok (V : VT) (rd : Nat) (td : Nat → Nat) (L : Nat → Int32) (z : Nat) (p : Nat × Int32) (hz : z ≤ 120) (hp : p.1 ≤ z) (lt : Int32) (hk : tK L z p.1 = 59) : CI V yX2_takesEnd cX2_takesEnd 1 .boolean rm_X2_takesEnd_ok [.ref rd] (wRd rd (td 0) lt ++ wTx V td L (nI z) (nI (tX L z p.1)) (nI (tP L z p.1)) (tK L z p.1) (tV L z p.1 p.2)) (fun r_ w_ => r_ = 1 ∧ w_ = wRd rd (td 0) lt ++ wTx V td L (nI z) (nI (tX L z (tS L z p).1)) (nI (tP L z (tS L z p).1)) (tK L z (tS L z p).1) (tV L z (tS L z p).1 (tS L z p).2)) := by
  refine CI_intro (by decide) (Nat.le_of_ble_eq_true rfl) (fun K cx hret => ?_)
  show G V K 1 0 0 (wRd rd (td 0) lt ++ wTx V td L (nI z) (nI (tX L z p.1)) (nI (tP L z p.1)) (tK L z p.1) (tV L z p.1 p.2)) 0 [(0, .ref rd)] []
  refine g_aload_n (v := rd) cx dX2_takesEnd_0 rfl ?_
  refine g_get (v := .ref (td 0)) cx fk_X2_9 dX2_takesEnd_1 0 rfl rfl ?_
  refine g_get (v := .int (tK L z p.1)) cx fk_X2_29 dX2_takesEnd_4 1 rfl rfl ?_
  refine g_bipush (v := 59) cx dX2_takesEnd_7 (by decide) ?_
  refine g_icmp_eq cx 14 dX2_takesEnd_9 (by decide) (fun hw1 => ?_) (fun hw1 => absurd (hk) hw1)
  refine g_aload_n (v := rd) cx dX2_takesEnd_14 rfl ?_
  refine g_get (v := .ref (td 0)) cx fk_X2_9 dX2_takesEnd_15 0 rfl rfl ?_
  refine k_callv (ws' := wRd rd (td 0) lt ++ wTx V td L (nI z) (nI (tX L z (tS L z p).1)) (nI (tP L z (tS L z p).1)) (tK L z (tS L z p).1) (tV L z (tS L z p).1 (tS L z p).2)) (As := []) (rest := []) cx (c_X7_step V td L z (tX L z p.1) (nI (tP L z p.1)) (tK L z p.1) (tV L z p.1 p.2) hz (tS_le (L := L) (hp))) ml_X2_53 dX2_takesEnd_18 [1, 2] rfl rfl [td 0, td 1] rfl rfl rfl 0 7 rfl rfl rfl rfl rfl (Nat.le_of_ble_eq_true rfl) ⟨Nat.le_of_ble_eq_true rfl, Nat.le_of_ble_eq_true rfl⟩ ⟨Nat.le_refl _, Nat.le_refl _⟩ ?_
  refine g_iconst (v := 1) cx dX2_takesEnd_21 (by decide) ?_
  exact hret _ _ _ _ dX2_takesEnd_22 (by first | rfl | exact rf_bnar) ⟨rfl, rfl⟩
def rm_X2_takesEnd_no : Room := { frames := 0, cells := 0, slots := 0, locals := 0 }
set_option maxRecDepth 100000 in
set_option maxHeartbeats 4000000 in
theorem c_X2_takesEnd_no (V : VT) (rd : Nat) (td : Nat → Nat) (L : Nat → Int32) (z : Nat) (p : Nat × Int32) (hz : z ≤ 120) (hp : p.1 ≤ z) (lt : Int32) (hk : ¬ tK L z p.1 = 59) : CI V yX2_takesEnd cX2_takesEnd 1 .boolean rm_X2_takesEnd_no [.ref rd] (wRd rd (td 0) lt ++ wTx V td L (nI z) (nI (tX L z p.1)) (nI (tP L z p.1)) (tK L z p.1) (tV L z p.1 p.2)) (fun r_ w_ => r_ = 0 ∧ w_ = wRd rd (td 0) lt ++ wTx V td L (nI z) (nI (tX L z p.1)) (nI (tP L z p.1)) (tK L z p.1) (tV L z p.1 p.2)) := by
  refine CI_intro (by decide) (Nat.le_of_ble_eq_true rfl) (fun K cx hret => ?_)
  show G V K 1 0 0 (wRd rd (td 0) lt ++ wTx V td L (nI z) (nI (tX L z p.1)) (nI (tP L z p.1)) (tK L z p.1) (tV L z p.1 p.2)) 0 [(0, .ref rd)] []
  refine g_aload_n (v := rd) cx dX2_takesEnd_0 rfl ?_
  refine g_get (v := .ref (td 0)) cx fk_X2_9 dX2_takesEnd_1 0 rfl rfl ?_
  refine g_get (v := .int (tK L z p.1)) cx fk_X2_29 dX2_takesEnd_4 1 rfl rfl ?_
  refine g_bipush (v := 59) cx dX2_takesEnd_7 (by decide) ?_
  refine g_icmp_eq cx 14 dX2_takesEnd_9 (by decide) (fun hw1 => absurd hw1 (hk)) (fun hw1 => ?_)
  refine g_iconst (v := 0) cx dX2_takesEnd_12 (by decide) ?_
  exact hret _ _ _ _ dX2_takesEnd_13 (by first | rfl | exact rf_bnar) ⟨rfl, rfl⟩
def rm_X2_readsDrive : Room := { frames := 4, cells := 0, slots := 0, locals := 85 }
set_option maxRecDepth 100000 in
set_option maxHeartbeats 4000000 in
theorem c_X2_readsDrive (V : VT) (rd : Nat) (td : Nat → Nat) (L : Nat → Int32) (z : Nat) (p : Nat × Int32) (hz : z ≤ 120) (hp : p.1 ≤ z) (lt : Int32) (dd : Nat → Nat) (D : S2) (hn : D 5 0 = nI (dn D)) (hn6 : dn D ≤ 6) : CI V yX2_readsDrive cX2_readsDrive 4 .boolean rm_X2_readsDrive [.ref rd, .ref (dd 0)] (wRd rd (td 0) lt ++ wTx V td L (nI z) (nI (tX L z p.1)) (nI (tP L z p.1)) (tK L z p.1) (tV L z p.1 p.2) ++ wRing V dd D) (fun r_ w_ => r_ = bI ((qDrive L z D p).1 = true) ∧ w_ = wRd rd (td 0) lt ++ wTx V td L (nI z) (nI (tX L z ((qDrive L z D p).2.2).1)) (nI (tP L z ((qDrive L z D p).2.2).1)) (tK L z ((qDrive L z D p).2.2).1) (tV L z ((qDrive L z D p).2.2).1 ((qDrive L z D p).2.2).2) ++ wRing V dd ((qDrive L z D p).2.1)) := by
  refine CI_intro (by decide) (Nat.le_of_ble_eq_true rfl) (fun K cx hret => ?_)
  show G V K 4 0 0 (wRd rd (td 0) lt ++ wTx V td L (nI z) (nI (tX L z p.1)) (nI (tP L z p.1)) (tK L z p.1) (tV L z p.1 p.2) ++ wRing V dd D) 0 [(0, .ref rd), (1, .ref (dd 0))] []
  refine g_aload_n (v := dd 0) cx dX2_readsDrive_0 rfl ?_
  refine k_calli (r0 := bI (D 5 4 = 0 ∧ ¬ 6 ≤ D 5 0)) (ws' := wRd rd (td 0) lt ++ wTx V td L (nI z) (nI (tX L z p.1)) (nI (tP L z p.1)) (tK L z p.1) (tV L z p.1 p.2) ++ wRing V dd D) (As := []) (rest := []) cx (c_X3_takesDrive V dd D) ml_X2_49 dX2_readsDrive_1 [3, 4, 5, 6, 7, 8] rfl rfl [dd 0, dd 1, dd 2, dd 3, dd 4, dd 5] rfl rfl rfl 0 3 rfl rfl rfl rfl rfl (Nat.le_of_ble_eq_true rfl) ⟨Nat.le_of_ble_eq_true rfl, Nat.le_of_ble_eq_true rfl⟩ ⟨Nat.le_refl _, Nat.le_refl _⟩ ?_
  refine g_if_ne_b cx 9 dX2_readsDrive_4 (by decide) (fun hw1 => ?_) (fun hw1 => ?_)
  · skip
    refine g_aload_n (v := rd) cx dX2_readsDrive_9 rfl ?_
    refine g_get (v := .ref (td 0)) cx fk_X2_9 dX2_readsDrive_10 0 rfl rfl ?_
    refine k_callv (ws' := wRd rd (td 0) lt ++ wTx V td L (nI z) (nI (tX L z (tS L z p).1)) (nI (tP L z (tS L z p).1)) (tK L z (tS L z p).1) (tV L z (tS L z p).1 (tS L z p).2) ++ wRing V dd D) (As := []) (rest := []) cx (c_X7_step V td L z (tX L z p.1) (nI (tP L z p.1)) (tK L z p.1) (tV L z p.1 p.2) hz (tS_le (L := L) (hp))) ml_X2_53 dX2_readsDrive_13 [1, 2] rfl rfl [td 0, td 1] rfl rfl rfl 0 7 rfl rfl rfl rfl rfl (Nat.le_of_ble_eq_true rfl) ⟨Nat.le_of_ble_eq_true rfl, Nat.le_of_ble_eq_true rfl⟩ ⟨Nat.le_refl _, Nat.le_refl _⟩ ?_
    refine g_aload_n (v := rd) cx dX2_readsDrive_16 rfl ?_
    refine g_iconst (v := 1) cx dX2_readsDrive_17 (by decide) ?_
    refine g_bipush (v := 9) cx dX2_readsDrive_18 (by decide) ?_
    by_cases hk1 : tO L z (tS L z p) 1 9
    · skip
      refine k_calli (r0 := tU L z (tS L z p)) (ws' := wRd rd (td 0) lt ++ wTx V td L (nI z) (nI (tX L z (tS L z (tS L z p)).1)) (nI (tP L z (tS L z (tS L z p)).1)) (tK L z (tS L z (tS L z p)).1) (tV L z (tS L z (tS L z p)).1 (tS L z (tS L z p)).2) ++ wRing V dd D) (As := [.int 1, .int 9]) (rest := []) cx (c_X2_takeNumber_ok V rd td L z (tS L z p) hz (tS_le (hp)) lt 1 9 hk1) ml_X2_56 dX2_readsDrive_20 [0, 1, 2] rfl rfl [rd, td 0, td 1] rfl rfl rfl 0 2 rfl rfl rfl rfl rfl (Nat.le_of_ble_eq_true rfl) ⟨Nat.le_of_ble_eq_true rfl, Nat.le_of_ble_eq_true rfl⟩ ⟨Nat.le_refl _, Nat.le_refl _⟩ ?_
      refine g_istore_n (lv' := [(0, .ref rd), (1, .ref (dd 0)), (2, .int (tU L z (tS L z p)))]) cx dX2_readsDrive_23 (by decide) rfl ?_
      refine g_iload_n (v := tU L z (tS L z p)) cx dX2_readsDrive_24 rfl ?_
      refine g_iconst (v := (-1)) cx dX2_readsDrive_25 (by decide) ?_
      refine g_icmp_ne cx 31 dX2_readsDrive_26 (by decide) (fun hw2 => ?_) (fun hw2 => absurd hw2 (tO_ne hk1 (by decide)))
      refine g_aload_n (v := rd) cx dX2_readsDrive_31 rfl ?_
      refine g_iconst (v := 0) cx dX2_readsDrive_32 (by decide) ?_
      refine g_bipush (v := 15) cx dX2_readsDrive_33 (by decide) ?_
      by_cases hk2 : tO L z (tS L z (tS L z p)) 0 15
      · skip
        refine k_calli (r0 := tU L z (tS L z (tS L z p))) (ws' := wRd rd (td 0) lt ++ wTx V td L (nI z) (nI (tX L z (tS L z (tS L z (tS L z p))).1)) (nI (tP L z (tS L z (tS L z (tS L z p))).1)) (tK L z (tS L z (tS L z (tS L z p))).1) (tV L z (tS L z (tS L z (tS L z p))).1 (tS L z (tS L z (tS L z p))).2) ++ wRing V dd D) (As := [.int 0, .int 15]) (rest := []) cx (c_X2_takeNumber_ok V rd td L z (tS L z (tS L z p)) hz (tS_le (tS_le (hp))) lt 0 15 hk2) ml_X2_56 dX2_readsDrive_35 [0, 1, 2] rfl rfl [rd, td 0, td 1] rfl rfl rfl 0 2 rfl rfl rfl rfl rfl (Nat.le_of_ble_eq_true rfl) ⟨Nat.le_of_ble_eq_true rfl, Nat.le_of_ble_eq_true rfl⟩ ⟨Nat.le_refl _, Nat.le_refl _⟩ ?_
        refine g_istore_n (lv' := [(0, .ref rd), (1, .ref (dd 0)), (2, .int (tU L z (tS L z p))), (3, .int (tU L z (tS L z (tS L z p))))]) cx dX2_readsDrive_38 (by decide) rfl ?_
        refine g_iload_n (v := tU L z (tS L z (tS L z p))) cx dX2_readsDrive_39 rfl ?_
        refine g_iconst (v := (-1)) cx dX2_readsDrive_40 (by decide) ?_
        refine g_icmp_eq cx 51 dX2_readsDrive_41 (by decide) (fun hw3 => absurd hw3 (tO_ne hk2 (by decide))) (fun hw3 => ?_)
        refine g_aload_n (v := rd) cx dX2_readsDrive_44 rfl ?_
        by_cases hk3 : tK L z (tS L z (tS L z (tS L z p))).1 = 59
        · skip
          refine k_calli (r0 := 1) (ws' := wRd rd (td 0) lt ++ wTx V td L (nI z) (nI (tX L z (tS L z (tS L z (tS L z (tS L z p)))).1)) (nI (tP L z (tS L z (tS L z (tS L z (tS L z p)))).1)) (tK L z (tS L z (tS L z (tS L z (tS L z p)))).1) (tV L z (tS L z (tS L z (tS L z (tS L z p)))).1 (tS L z (tS L z (tS L z (tS L z p)))).2) ++ wRing V dd D) (As := []) (rest := []) cx (c_X2_takesEnd_ok V rd td L z (tS L z (tS L z (tS L z p))) hz (tS_le (tS_le (tS_le (hp)))) lt hk3) ml_X2_60 dX2_readsDrive_45 [0, 1, 2] rfl rfl [rd, td 0, td 1] rfl rfl rfl 0 2 rfl rfl rfl rfl rfl (Nat.le_of_ble_eq_true rfl) ⟨Nat.le_of_ble_eq_true rfl, Nat.le_of_ble_eq_true rfl⟩ ⟨Nat.le_refl _, Nat.le_refl _⟩ ?_
          refine g_if_ne cx 53 dX2_readsDrive_48 (by decide) (fun hw4 => ?_) (fun hw4 => absurd hw4 (by decide))
          refine g_aload_n (v := dd 0) cx dX2_readsDrive_53 rfl ?_
          refine g_iload_n (v := tU L z (tS L z p)) cx dX2_readsDrive_54 rfl ?_
          refine g_iload_n (v := tU L z (tS L z (tS L z p))) cx dX2_readsDrive_55 rfl ?_
          refine k_callv (ws' := wRd rd (td 0) lt ++ wTx V td L (nI z) (nI (tX L z (tS L z (tS L z (tS L z (tS L z p)))).1)) (nI (tP L z (tS L z (tS L z (tS L z (tS L z p)))).1)) (tK L z (tS L z (tS L z (tS L z (tS L z p)))).1) (tV L z (tS L z (tS L z (tS L z (tS L z p)))).1 (tS L z (tS L z (tS L z (tS L z p)))).2) ++ wRing V dd (rAddDrive D (dn D) (tU L z (tS L z p)) (tU L z (tS L z (tS L z p))))) (As := [.int (tU L z (tS L z p)), .int (tU L z (tS L z (tS L z p)))]) (rest := []) cx (c_X3_addDrive V dd D (tU L z (tS L z p)) (tU L z (tS L z (tS L z p))) (dn D) hn hn6 (by have h7 := hw1.2; rw [hn] at h7; exact Nat.not_le.mp (fun e => h7 (nI_le e (by omega)))) hw1.1) ml_X2_63 dX2_readsDrive_56 [3, 4, 5, 6, 7, 8] rfl rfl [dd 0, dd 1, dd 2, dd 3, dd 4, dd 5] rfl rfl rfl 0 3 rfl rfl rfl rfl rfl (Nat.le_of_ble_eq_true rfl) ⟨Nat.le_of_ble_eq_true rfl, Nat.le_of_ble_eq_true rfl⟩ ⟨Nat.le_refl _, Nat.le_refl _⟩ ?_
          refine g_iconst (v := 1) cx dX2_readsDrive_59 (by decide) ?_
          exact hret _ _ _ _ dX2_readsDrive_60 (by first | rfl | exact rf_bnar) (⟨by rw [qDrive, if_neg (not_not_intro hw1), if_neg (not_not_intro hk1), if_neg (not_not_intro hk2), if_neg (not_not_intro hk3)]; rfl, by rw [qDrive, if_neg (not_not_intro hw1), if_neg (not_not_intro hk1), if_neg (not_not_intro hk2), if_neg (not_not_intro hk3)]⟩)
        · skip
          refine k_calli (r0 := 0) (ws' := wRd rd (td 0) lt ++ wTx V td L (nI z) (nI (tX L z (tS L z (tS L z (tS L z p))).1)) (nI (tP L z (tS L z (tS L z (tS L z p))).1)) (tK L z (tS L z (tS L z (tS L z p))).1) (tV L z (tS L z (tS L z (tS L z p))).1 (tS L z (tS L z (tS L z p))).2) ++ wRing V dd D) (As := []) (rest := []) cx (c_X2_takesEnd_no V rd td L z (tS L z (tS L z (tS L z p))) hz (tS_le (tS_le (tS_le (hp)))) lt hk3) ml_X2_60 dX2_readsDrive_45 [0, 1, 2] rfl rfl [rd, td 0, td 1] rfl rfl rfl 0 2 rfl rfl rfl rfl rfl (Nat.le_of_ble_eq_true rfl) ⟨Nat.le_of_ble_eq_true rfl, Nat.le_of_ble_eq_true rfl⟩ ⟨Nat.le_refl _, Nat.le_refl _⟩ ?_
          refine g_if_ne cx 53 dX2_readsDrive_48 (by decide) (fun hw5 => absurd (by decide) hw5) (fun hw5 => ?_)
          refine g_iconst (v := 0) cx dX2_readsDrive_51 (by decide) ?_
          exact hret _ _ _ _ dX2_readsDrive_52 (by first | rfl | exact rf_bnar) (⟨by rw [qDrive, if_neg (not_not_intro hw1), if_neg (not_not_intro hk1), if_neg (not_not_intro hk2), if_pos hk3]; rfl, by rw [qDrive, if_neg (not_not_intro hw1), if_neg (not_not_intro hk1), if_neg (not_not_intro hk2), if_pos hk3]⟩)
      · skip
        refine k_calli (r0 := (-1)) (ws' := wRd rd (td 0) lt ++ wTx V td L (nI z) (nI (tX L z (tS L z (tS L z p)).1)) (nI (tP L z (tS L z (tS L z p)).1)) (tK L z (tS L z (tS L z p)).1) (tV L z (tS L z (tS L z p)).1 (tS L z (tS L z p)).2) ++ wRing V dd D) (As := [.int 0, .int 15]) (rest := []) cx (c_X2_takeNumber_no V rd td L z (tS L z (tS L z p)) hz (tS_le (tS_le (hp))) lt 0 15 hk2) ml_X2_56 dX2_readsDrive_35 [0, 1, 2] rfl rfl [rd, td 0, td 1] rfl rfl rfl 0 2 rfl rfl rfl rfl rfl (Nat.le_of_ble_eq_true rfl) ⟨Nat.le_of_ble_eq_true rfl, Nat.le_of_ble_eq_true rfl⟩ ⟨Nat.le_refl _, Nat.le_refl _⟩ ?_
        refine g_istore_n (lv' := [(0, .ref rd), (1, .ref (dd 0)), (2, .int (tU L z (tS L z p))), (3, .int (-1))]) cx dX2_readsDrive_38 (by decide) rfl ?_
        refine g_iload_n (v := (-1)) cx dX2_readsDrive_39 rfl ?_
        refine g_iconst (v := (-1)) cx dX2_readsDrive_40 (by decide) ?_
        refine g_icmp_eq cx 51 dX2_readsDrive_41 (by decide) (fun hw6 => ?_) (fun hw6 => absurd (by decide) hw6)
        refine g_iconst (v := 0) cx dX2_readsDrive_51 (by decide) ?_
        exact hret _ _ _ _ dX2_readsDrive_52 (by first | rfl | exact rf_bnar) (⟨by rw [qDrive, if_neg (not_not_intro hw1), if_neg (not_not_intro hk1), if_pos hk2]; rfl, by rw [qDrive, if_neg (not_not_intro hw1), if_neg (not_not_intro hk1), if_pos hk2]⟩)
    · skip
      refine k_calli (r0 := (-1)) (ws' := wRd rd (td 0) lt ++ wTx V td L (nI z) (nI (tX L z (tS L z p).1)) (nI (tP L z (tS L z p).1)) (tK L z (tS L z p).1) (tV L z (tS L z p).1 (tS L z p).2) ++ wRing V dd D) (As := [.int 1, .int 9]) (rest := []) cx (c_X2_takeNumber_no V rd td L z (tS L z p) hz (tS_le (hp)) lt 1 9 hk1) ml_X2_56 dX2_readsDrive_20 [0, 1, 2] rfl rfl [rd, td 0, td 1] rfl rfl rfl 0 2 rfl rfl rfl rfl rfl (Nat.le_of_ble_eq_true rfl) ⟨Nat.le_of_ble_eq_true rfl, Nat.le_of_ble_eq_true rfl⟩ ⟨Nat.le_refl _, Nat.le_refl _⟩ ?_
      refine g_istore_n (lv' := [(0, .ref rd), (1, .ref (dd 0)), (2, .int (-1))]) cx dX2_readsDrive_23 (by decide) rfl ?_
      refine g_iload_n (v := (-1)) cx dX2_readsDrive_24 rfl ?_
      refine g_iconst (v := (-1)) cx dX2_readsDrive_25 (by decide) ?_
      refine g_icmp_ne cx 31 dX2_readsDrive_26 (by decide) (fun hw7 => absurd (by decide) hw7) (fun hw7 => ?_)
      refine g_iconst (v := 0) cx dX2_readsDrive_29 (by decide) ?_
      exact hret _ _ _ _ dX2_readsDrive_30 (by first | rfl | exact rf_bnar) (⟨by rw [qDrive, if_neg (not_not_intro hw1), if_pos hk1]; rfl, by rw [qDrive, if_neg (not_not_intro hw1), if_pos hk1]⟩)
  · skip
    refine g_iconst (v := 0) cx dX2_readsDrive_7 (by decide) ?_
    exact hret _ _ _ _ dX2_readsDrive_8 (by first | rfl | exact rf_bnar) (⟨by rw [qDrive, if_pos hw1]; rfl, by rw [qDrive, if_pos hw1]⟩)
def rm_X2_readsClosing : Room := { frames := 4, cells := 0, slots := 0, locals := 85 }
set_option maxRecDepth 100000 in
set_option maxHeartbeats 4000000 in
theorem c_X2_readsClosing (V : VT) (rd : Nat) (td : Nat → Nat) (L : Nat → Int32) (z : Nat) (p : Nat × Int32) (hz : z ≤ 120) (hp : p.1 ≤ z) (lt : Int32) (dd : Nat → Nat) (D : S2) (hn : D 5 0 = nI (dn D)) (hn6 : dn D ≤ 6) : CI V yX2_readsClosing cX2_readsClosing 3 .boolean rm_X2_readsClosing [.ref rd, .ref (dd 0)] (wRd rd (td 0) lt ++ wTx V td L (nI z) (nI (tX L z p.1)) (nI (tP L z p.1)) (tK L z p.1) (tV L z p.1 p.2) ++ wRing V dd D) (fun r_ w_ => r_ = bI ((qClose L z D p).1 = true) ∧ w_ = wRd rd (td 0) lt ++ wTx V td L (nI z) (nI (tX L z ((qClose L z D p).2.2).1)) (nI (tP L z ((qClose L z D p).2.2).1)) (tK L z ((qClose L z D p).2.2).1) (tV L z ((qClose L z D p).2.2).1 ((qClose L z D p).2.2).2) ++ wRing V dd ((qClose L z D p).2.1)) := by
  refine CI_intro (by decide) (Nat.le_of_ble_eq_true rfl) (fun K cx hret => ?_)
  show G V K 3 0 0 (wRd rd (td 0) lt ++ wTx V td L (nI z) (nI (tX L z p.1)) (nI (tP L z p.1)) (tK L z p.1) (tV L z p.1 p.2) ++ wRing V dd D) 0 [(0, .ref rd), (1, .ref (dd 0))] []
  refine g_aload_n (v := dd 0) cx dX2_readsClosing_0 rfl ?_
  refine k_calli (r0 := bI (D 5 4 = 0 ∧ ¬ D 5 0 ≤ 0)) (ws' := wRd rd (td 0) lt ++ wTx V td L (nI z) (nI (tX L z p.1)) (nI (tP L z p.1)) (tK L z p.1) (tV L z p.1 p.2) ++ wRing V dd D) (As := []) (rest := []) cx (c_X3_takesClosing V dd D) ml_X2_67 dX2_readsClosing_1 [3, 4, 5, 6, 7, 8] rfl rfl [dd 0, dd 1, dd 2, dd 3, dd 4, dd 5] rfl rfl rfl 0 3 rfl rfl rfl rfl rfl (Nat.le_of_ble_eq_true rfl) ⟨Nat.le_of_ble_eq_true rfl, Nat.le_of_ble_eq_true rfl⟩ ⟨Nat.le_refl _, Nat.le_refl _⟩ ?_
  refine g_if_ne_b cx 9 dX2_readsClosing_4 (by decide) (fun hw1 => ?_) (fun hw1 => ?_)
  · skip
    refine g_aload_n (v := rd) cx dX2_readsClosing_9 rfl ?_
    refine g_get (v := .ref (td 0)) cx fk_X2_9 dX2_readsClosing_10 0 rfl rfl ?_
    refine k_callv (ws' := wRd rd (td 0) lt ++ wTx V td L (nI z) (nI (tX L z (tS L z p).1)) (nI (tP L z (tS L z p).1)) (tK L z (tS L z p).1) (tV L z (tS L z p).1 (tS L z p).2) ++ wRing V dd D) (As := []) (rest := []) cx (c_X7_step V td L z (tX L z p.1) (nI (tP L z p.1)) (tK L z p.1) (tV L z p.1 p.2) hz (tS_le (L := L) (hp))) ml_X2_53 dX2_readsClosing_13 [1, 2] rfl rfl [td 0, td 1] rfl rfl rfl 0 7 rfl rfl rfl rfl rfl (Nat.le_of_ble_eq_true rfl) ⟨Nat.le_of_ble_eq_true rfl, Nat.le_of_ble_eq_true rfl⟩ ⟨Nat.le_refl _, Nat.le_refl _⟩ ?_
    refine g_aload_n (v := rd) cx dX2_readsClosing_16 rfl ?_
    refine g_iconst (v := 1) cx dX2_readsClosing_17 (by decide) ?_
    refine g_bipush (v := 9) cx dX2_readsClosing_18 (by decide) ?_
    by_cases hk1 : tO L z (tS L z p) 1 9
    · skip
      refine k_calli (r0 := tU L z (tS L z p)) (ws' := wRd rd (td 0) lt ++ wTx V td L (nI z) (nI (tX L z (tS L z (tS L z p)).1)) (nI (tP L z (tS L z (tS L z p)).1)) (tK L z (tS L z (tS L z p)).1) (tV L z (tS L z (tS L z p)).1 (tS L z (tS L z p)).2) ++ wRing V dd D) (As := [.int 1, .int 9]) (rest := []) cx (c_X2_takeNumber_ok V rd td L z (tS L z p) hz (tS_le (hp)) lt 1 9 hk1) ml_X2_56 dX2_readsClosing_20 [0, 1, 2] rfl rfl [rd, td 0, td 1] rfl rfl rfl 0 2 rfl rfl rfl rfl rfl (Nat.le_of_ble_eq_true rfl) ⟨Nat.le_of_ble_eq_true rfl, Nat.le_of_ble_eq_true rfl⟩ ⟨Nat.le_refl _, Nat.le_refl _⟩ ?_
      refine g_istore_n (lv' := [(0, .ref rd), (1, .ref (dd 0)), (2, .int (tU L z (tS L z p)))]) cx dX2_readsClosing_23 (by decide) rfl ?_
      refine g_iload_n (v := tU L z (tS L z p)) cx dX2_readsClosing_24 rfl ?_
      refine g_iconst (v := (-1)) cx dX2_readsClosing_25 (by decide) ?_
      refine g_icmp_eq cx 36 dX2_readsClosing_26 (by decide) (fun hw2 => absurd hw2 (tO_ne hk1 (by decide))) (fun hw2 => ?_)
      refine g_aload_n (v := rd) cx dX2_readsClosing_29 rfl ?_
      by_cases hk3 : tK L z (tS L z (tS L z p)).1 = 59
      · skip
        refine k_calli (r0 := 1) (ws' := wRd rd (td 0) lt ++ wTx V td L (nI z) (nI (tX L z (tS L z (tS L z (tS L z p))).1)) (nI (tP L z (tS L z (tS L z (tS L z p))).1)) (tK L z (tS L z (tS L z (tS L z p))).1) (tV L z (tS L z (tS L z (tS L z p))).1 (tS L z (tS L z (tS L z p))).2) ++ wRing V dd D) (As := []) (rest := []) cx (c_X2_takesEnd_ok V rd td L z (tS L z (tS L z p)) hz (tS_le (tS_le (hp))) lt hk3) ml_X2_60 dX2_readsClosing_30 [0, 1, 2] rfl rfl [rd, td 0, td 1] rfl rfl rfl 0 2 rfl rfl rfl rfl rfl (Nat.le_of_ble_eq_true rfl) ⟨Nat.le_of_ble_eq_true rfl, Nat.le_of_ble_eq_true rfl⟩ ⟨Nat.le_refl _, Nat.le_refl _⟩ ?_
        refine g_if_ne cx 38 dX2_readsClosing_33 (by decide) (fun hw3 => ?_) (fun hw3 => absurd hw3 (by decide))
        refine g_aload_n (v := dd 0) cx dX2_readsClosing_38 rfl ?_
        refine g_iload_n (v := tU L z (tS L z p)) cx dX2_readsClosing_39 rfl ?_
        refine k_callv (ws' := wRd rd (td 0) lt ++ wTx V td L (nI z) (nI (tX L z (tS L z (tS L z (tS L z p))).1)) (nI (tP L z (tS L z (tS L z (tS L z p))).1)) (tK L z (tS L z (tS L z (tS L z p))).1) (tV L z (tS L z (tS L z (tS L z p))).1 (tS L z (tS L z (tS L z p))).2) ++ wRing V dd (rCloseBy D (dn D) (tU L z (tS L z p)))) (As := [.int (tU L z (tS L z p))]) (rest := []) cx (c_X3_closeBy V dd D (tU L z (tS L z p)) (dn D) hn hn6 (by have h7 := hw1.2; rw [hn] at h7; exact Nat.pos_of_ne_zero (fun e => h7 (by rw [e]; decide))) hw1.1) ml_X2_70 dX2_readsClosing_40 [3, 4, 5, 6, 7, 8] rfl rfl [dd 0, dd 1, dd 2, dd 3, dd 4, dd 5] rfl rfl rfl 0 3 rfl rfl rfl rfl rfl (Nat.le_of_ble_eq_true rfl) ⟨Nat.le_of_ble_eq_true rfl, Nat.le_of_ble_eq_true rfl⟩ ⟨Nat.le_refl _, Nat.le_refl _⟩ ?_
        refine g_iconst (v := 1) cx dX2_readsClosing_43 (by decide) ?_
        exact hret _ _ _ _ dX2_readsClosing_44 (by first | rfl | exact rf_bnar) (⟨by rw [qClose, if_neg (not_not_intro hw1), if_neg (not_not_intro hk1), if_neg (not_not_intro hk3)]; rfl, by rw [qClose, if_neg (not_not_intro hw1), if_neg (not_not_intro hk1), if_neg (not_not_intro hk3)]⟩)
      · skip
        refine k_calli (r0 := 0) (ws' := wRd rd (td 0) lt ++ wTx V td L (nI z) (nI (tX L z (tS L z (tS L z p)).1)) (nI (tP L z (tS L z (tS L z p)).1)) (tK L z (tS L z (tS L z p)).1) (tV L z (tS L z (tS L z p)).1 (tS L z (tS L z p)).2) ++ wRing V dd D) (As := []) (rest := []) cx (c_X2_takesEnd_no V rd td L z (tS L z (tS L z p)) hz (tS_le (tS_le (hp))) lt hk3) ml_X2_60 dX2_readsClosing_30 [0, 1, 2] rfl rfl [rd, td 0, td 1] rfl rfl rfl 0 2 rfl rfl rfl rfl rfl (Nat.le_of_ble_eq_true rfl) ⟨Nat.le_of_ble_eq_true rfl, Nat.le_of_ble_eq_true rfl⟩ ⟨Nat.le_refl _, Nat.le_refl _⟩ ?_
        refine g_if_ne cx 38 dX2_readsClosing_33 (by decide) (fun hw4 => absurd (by decide) hw4) (fun hw4 => ?_)
        refine g_iconst (v := 0) cx dX2_readsClosing_36 (by decide) ?_
        exact hret _ _ _ _ dX2_readsClosing_37 (by first | rfl | exact rf_bnar) (⟨by rw [qClose, if_neg (not_not_intro hw1), if_neg (not_not_intro hk1), if_pos hk3]; rfl, by rw [qClose, if_neg (not_not_intro hw1), if_neg (not_not_intro hk1), if_pos hk3]⟩)
    · skip
      refine k_calli (r0 := (-1)) (ws' := wRd rd (td 0) lt ++ wTx V td L (nI z) (nI (tX L z (tS L z p).1)) (nI (tP L z (tS L z p).1)) (tK L z (tS L z p).1) (tV L z (tS L z p).1 (tS L z p).2) ++ wRing V dd D) (As := [.int 1, .int 9]) (rest := []) cx (c_X2_takeNumber_no V rd td L z (tS L z p) hz (tS_le (hp)) lt 1 9 hk1) ml_X2_56 dX2_readsClosing_20 [0, 1, 2] rfl rfl [rd, td 0, td 1] rfl rfl rfl 0 2 rfl rfl rfl rfl rfl (Nat.le_of_ble_eq_true rfl) ⟨Nat.le_of_ble_eq_true rfl, Nat.le_of_ble_eq_true rfl⟩ ⟨Nat.le_refl _, Nat.le_refl _⟩ ?_
      refine g_istore_n (lv' := [(0, .ref rd), (1, .ref (dd 0)), (2, .int (-1))]) cx dX2_readsClosing_23 (by decide) rfl ?_
      refine g_iload_n (v := (-1)) cx dX2_readsClosing_24 rfl ?_
      refine g_iconst (v := (-1)) cx dX2_readsClosing_25 (by decide) ?_
      refine g_icmp_eq cx 36 dX2_readsClosing_26 (by decide) (fun hw5 => ?_) (fun hw5 => absurd (by decide) hw5)
      refine g_iconst (v := 0) cx dX2_readsClosing_36 (by decide) ?_
      exact hret _ _ _ _ dX2_readsClosing_37 (by first | rfl | exact rf_bnar) (⟨by rw [qClose, if_neg (not_not_intro hw1), if_pos hk1]; rfl, by rw [qClose, if_neg (not_not_intro hw1), if_pos hk1]⟩)
  · skip
    refine g_iconst (v := 0) cx dX2_readsClosing_7 (by decide) ?_
    exact hret _ _ _ _ dX2_readsClosing_8 (by first | rfl | exact rf_bnar) (⟨by rw [qClose, if_pos hw1]; rfl, by rw [qClose, if_pos hw1]⟩)
def rm_X2_readsLimit : Room := { frames := 4, cells := 0, slots := 0, locals := 85 }
set_option maxRecDepth 100000 in
set_option maxHeartbeats 4000000 in
theorem c_X2_readsLimit (V : VT) (rd : Nat) (td : Nat → Nat) (L : Nat → Int32) (z : Nat) (p : Nat × Int32) (hz : z ≤ 120) (hp : p.1 ≤ z) (lt : Int32) (dd : Nat → Nat) (D : S2)  : CI V yX2_readsLimit cX2_readsLimit 3 .boolean rm_X2_readsLimit [.ref rd, .ref (dd 0)] (wRd rd (td 0) lt ++ wTx V td L (nI z) (nI (tX L z p.1)) (nI (tP L z p.1)) (tK L z p.1) (tV L z p.1 p.2) ++ wRing V dd D) (fun r_ w_ => r_ = bI ((qLimit L z D lt p).1 = true) ∧ w_ = wRd rd (td 0) ((qLimit L z D lt p).2.2.1) ++ wTx V td L (nI z) (nI (tX L z ((qLimit L z D lt p).2.2.2).1)) (nI (tP L z ((qLimit L z D lt p).2.2.2).1)) (tK L z ((qLimit L z D lt p).2.2.2).1) (tV L z ((qLimit L z D lt p).2.2.2).1 ((qLimit L z D lt p).2.2.2).2) ++ wRing V dd ((qLimit L z D lt p).2.1)) := by
  refine CI_intro (by decide) (Nat.le_of_ble_eq_true rfl) (fun K cx hret => ?_)
  show G V K 3 0 0 (wRd rd (td 0) lt ++ wTx V td L (nI z) (nI (tX L z p.1)) (nI (tP L z p.1)) (tK L z p.1) (tV L z p.1 p.2) ++ wRing V dd D) 0 [(0, .ref rd), (1, .ref (dd 0))] []
  refine g_aload_n (v := rd) cx dX2_readsLimit_0 rfl ?_
  refine g_get (v := .int lt) cx fk_X2_20 dX2_readsLimit_1 0 rfl rfl ?_
  refine g_if_eq cx 9 dX2_readsLimit_4 (by decide) (fun hw1 => ?_) (fun hw1 => ?_)
  · skip
    refine g_aload_n (v := rd) cx dX2_readsLimit_9 rfl ?_
    refine g_get (v := .ref (td 0)) cx fk_X2_9 dX2_readsLimit_10 0 rfl rfl ?_
    refine k_callv (ws' := wRd rd (td 0) lt ++ wTx V td L (nI z) (nI (tX L z (tS L z p).1)) (nI (tP L z (tS L z p).1)) (tK L z (tS L z p).1) (tV L z (tS L z p).1 (tS L z p).2) ++ wRing V dd D) (As := []) (rest := []) cx (c_X7_step V td L z (tX L z p.1) (nI (tP L z p.1)) (tK L z p.1) (tV L z p.1 p.2) hz (tS_le (L := L) (hp))) ml_X2_53 dX2_readsLimit_13 [1, 2] rfl rfl [td 0, td 1] rfl rfl rfl 0 7 rfl rfl rfl rfl rfl (Nat.le_of_ble_eq_true rfl) ⟨Nat.le_of_ble_eq_true rfl, Nat.le_of_ble_eq_true rfl⟩ ⟨Nat.le_refl _, Nat.le_refl _⟩ ?_
    refine g_aload_n (v := rd) cx dX2_readsLimit_16 rfl ?_
    refine g_iconst (v := 1) cx dX2_readsLimit_17 (by decide) ?_
    refine g_bipush (v := 9) cx dX2_readsLimit_18 (by decide) ?_
    by_cases hk1 : tO L z (tS L z p) 1 9
    · skip
      refine k_calli (r0 := tU L z (tS L z p)) (ws' := wRd rd (td 0) lt ++ wTx V td L (nI z) (nI (tX L z (tS L z (tS L z p)).1)) (nI (tP L z (tS L z (tS L z p)).1)) (tK L z (tS L z (tS L z p)).1) (tV L z (tS L z (tS L z p)).1 (tS L z (tS L z p)).2) ++ wRing V dd D) (As := [.int 1, .int 9]) (rest := []) cx (c_X2_takeNumber_ok V rd td L z (tS L z p) hz (tS_le (hp)) lt 1 9 hk1) ml_X2_56 dX2_readsLimit_20 [0, 1, 2] rfl rfl [rd, td 0, td 1] rfl rfl rfl 0 2 rfl rfl rfl rfl rfl (Nat.le_of_ble_eq_true rfl) ⟨Nat.le_of_ble_eq_true rfl, Nat.le_of_ble_eq_true rfl⟩ ⟨Nat.le_refl _, Nat.le_refl _⟩ ?_
      refine g_istore_n (lv' := [(0, .ref rd), (1, .ref (dd 0)), (2, .int (tU L z (tS L z p)))]) cx dX2_readsLimit_23 (by decide) rfl ?_
      refine g_iload_n (v := tU L z (tS L z p)) cx dX2_readsLimit_24 rfl ?_
      refine g_iconst (v := (-1)) cx dX2_readsLimit_25 (by decide) ?_
      refine g_icmp_eq cx 36 dX2_readsLimit_26 (by decide) (fun hw2 => absurd hw2 (tO_ne hk1 (by decide))) (fun hw2 => ?_)
      refine g_aload_n (v := rd) cx dX2_readsLimit_29 rfl ?_
      by_cases hk3 : tK L z (tS L z (tS L z p)).1 = 59
      · skip
        refine k_calli (r0 := 1) (ws' := wRd rd (td 0) lt ++ wTx V td L (nI z) (nI (tX L z (tS L z (tS L z (tS L z p))).1)) (nI (tP L z (tS L z (tS L z (tS L z p))).1)) (tK L z (tS L z (tS L z (tS L z p))).1) (tV L z (tS L z (tS L z (tS L z p))).1 (tS L z (tS L z (tS L z p))).2) ++ wRing V dd D) (As := []) (rest := []) cx (c_X2_takesEnd_ok V rd td L z (tS L z (tS L z p)) hz (tS_le (tS_le (hp))) lt hk3) ml_X2_60 dX2_readsLimit_30 [0, 1, 2] rfl rfl [rd, td 0, td 1] rfl rfl rfl 0 2 rfl rfl rfl rfl rfl (Nat.le_of_ble_eq_true rfl) ⟨Nat.le_of_ble_eq_true rfl, Nat.le_of_ble_eq_true rfl⟩ ⟨Nat.le_refl _, Nat.le_refl _⟩ ?_
        refine g_if_ne cx 38 dX2_readsLimit_33 (by decide) (fun hw3 => ?_) (fun hw3 => absurd hw3 (by decide))
        refine g_aload_n (v := dd 0) cx dX2_readsLimit_38 rfl ?_
        refine g_iload_n (v := tU L z (tS L z p)) cx dX2_readsLimit_39 rfl ?_
        refine g_put (ws' := wRd rd (td 0) lt ++ wTx V td L (nI z) (nI (tX L z (tS L z (tS L z (tS L z p))).1)) (nI (tP L z (tS L z (tS L z (tS L z p))).1)) (tK L z (tS L z (tS L z (tS L z p))).1) (tV L z (tS L z (tS L z (tS L z p))).1 (tS L z (tS L z (tS L z p))).2) ++ wRing V dd (u2 D 5 2 (tU L z (tS L z p)))) cx fk_X2_74 dX2_readsLimit_40 3 rfl (rfl) (rfl) (Nat.le_of_ble_eq_true rfl) rfl ?_
        refine g_aload_n (v := rd) cx dX2_readsLimit_43 rfl ?_
        refine g_iconst (v := 1) cx dX2_readsLimit_44 (by decide) ?_
        refine g_put (ws' := wRd rd (td 0) 1 ++ wTx V td L (nI z) (nI (tX L z (tS L z (tS L z (tS L z p))).1)) (nI (tP L z (tS L z (tS L z (tS L z p))).1)) (tK L z (tS L z (tS L z (tS L z p))).1) (tV L z (tS L z (tS L z (tS L z p))).1 (tS L z (tS L z (tS L z p))).2) ++ wRing V dd (u2 D 5 2 (tU L z (tS L z p)))) cx fk_X2_20 dX2_readsLimit_45 0 rfl (rfl) (rfl) (Nat.le_of_ble_eq_true rfl) rfl ?_
        refine g_iconst (v := 1) cx dX2_readsLimit_48 (by decide) ?_
        exact hret _ _ _ _ dX2_readsLimit_49 (by first | rfl | exact rf_bnar) (⟨by rw [qLimit, if_neg (not_not_intro hw1), if_neg (not_not_intro hk1), if_neg (not_not_intro hk3)]; rfl, by rw [qLimit, if_neg (not_not_intro hw1), if_neg (not_not_intro hk1), if_neg (not_not_intro hk3)]⟩)
      · skip
        refine k_calli (r0 := 0) (ws' := wRd rd (td 0) lt ++ wTx V td L (nI z) (nI (tX L z (tS L z (tS L z p)).1)) (nI (tP L z (tS L z (tS L z p)).1)) (tK L z (tS L z (tS L z p)).1) (tV L z (tS L z (tS L z p)).1 (tS L z (tS L z p)).2) ++ wRing V dd D) (As := []) (rest := []) cx (c_X2_takesEnd_no V rd td L z (tS L z (tS L z p)) hz (tS_le (tS_le (hp))) lt hk3) ml_X2_60 dX2_readsLimit_30 [0, 1, 2] rfl rfl [rd, td 0, td 1] rfl rfl rfl 0 2 rfl rfl rfl rfl rfl (Nat.le_of_ble_eq_true rfl) ⟨Nat.le_of_ble_eq_true rfl, Nat.le_of_ble_eq_true rfl⟩ ⟨Nat.le_refl _, Nat.le_refl _⟩ ?_
        refine g_if_ne cx 38 dX2_readsLimit_33 (by decide) (fun hw4 => absurd (by decide) hw4) (fun hw4 => ?_)
        refine g_iconst (v := 0) cx dX2_readsLimit_36 (by decide) ?_
        exact hret _ _ _ _ dX2_readsLimit_37 (by first | rfl | exact rf_bnar) (⟨by rw [qLimit, if_neg (not_not_intro hw1), if_neg (not_not_intro hk1), if_pos hk3]; rfl, by rw [qLimit, if_neg (not_not_intro hw1), if_neg (not_not_intro hk1), if_pos hk3]⟩)
    · skip
      refine k_calli (r0 := (-1)) (ws' := wRd rd (td 0) lt ++ wTx V td L (nI z) (nI (tX L z (tS L z p).1)) (nI (tP L z (tS L z p).1)) (tK L z (tS L z p).1) (tV L z (tS L z p).1 (tS L z p).2) ++ wRing V dd D) (As := [.int 1, .int 9]) (rest := []) cx (c_X2_takeNumber_no V rd td L z (tS L z p) hz (tS_le (hp)) lt 1 9 hk1) ml_X2_56 dX2_readsLimit_20 [0, 1, 2] rfl rfl [rd, td 0, td 1] rfl rfl rfl 0 2 rfl rfl rfl rfl rfl (Nat.le_of_ble_eq_true rfl) ⟨Nat.le_of_ble_eq_true rfl, Nat.le_of_ble_eq_true rfl⟩ ⟨Nat.le_refl _, Nat.le_refl _⟩ ?_
      refine g_istore_n (lv' := [(0, .ref rd), (1, .ref (dd 0)), (2, .int (-1))]) cx dX2_readsLimit_23 (by decide) rfl ?_
      refine g_iload_n (v := (-1)) cx dX2_readsLimit_24 rfl ?_
      refine g_iconst (v := (-1)) cx dX2_readsLimit_25 (by decide) ?_
      refine g_icmp_eq cx 36 dX2_readsLimit_26 (by decide) (fun hw5 => ?_) (fun hw5 => absurd (by decide) hw5)
      refine g_iconst (v := 0) cx dX2_readsLimit_36 (by decide) ?_
      exact hret _ _ _ _ dX2_readsLimit_37 (by first | rfl | exact rf_bnar) (⟨by rw [qLimit, if_neg (not_not_intro hw1), if_pos hk1]; rfl, by rw [qLimit, if_neg (not_not_intro hw1), if_pos hk1]⟩)
  · skip
    refine g_iconst (v := 0) cx dX2_readsLimit_7 (by decide) ?_
    exact hret _ _ _ _ dX2_readsLimit_8 (by first | rfl | exact rf_bnar) (⟨by rw [qLimit, if_pos hw1]; rfl, by rw [qLimit, if_pos hw1]⟩)
