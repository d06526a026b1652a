theorem u1_n {R : S2} {i k : Nat} {f : Nat → Int32} (h : k ≠ i) : u1 R i f k = R k := by simp [u1, va_up, h]
theorem u1_s {R : S2} {i : Nat} {f : Nat → Int32} : u1 R i f i = f := by simp [u1, va_up]
theorem rTimes_k {R : S2} {n m k : Nat} (hk : k ≠ 4) : rTimes R n m k = R k := by
  unfold rTimes
  split
  · unfold rAround; rw [u1_n hk]
  · unfold rTimesT; rw [u2_n hk, u2_n hk]
/-- the ring behind send: rows 1, 2 as they were, row 5 but for its place 5 -/
theorem snd_k {v : Int32} {R A B : S2} {n o m k : Nat} (h0 : k ≠ 0) (h3 : k ≠ 3) (h4 : k ≠ 4) (h5 : k ≠ 5) : (snd v R A B n o m).2.2.1 k = R k := by
  unfold snd snd2 snd3
  simp only []
  rw [rTimes_k h4, u2_n h5, rRes_k h3, pl_keep (f := fun j => _ + j) _ k h0, pl_keep (f := fun d => d) _ k h0]
theorem snd_5 {v : Int32} {R A B : S2} {n o m j : Nat} (hj : j ≠ 5) : (snd v R A B n o m).2.2.1 5 j = R 5 j := by
  unfold snd snd2 snd3
  simp only []
  rw [rTimes_k (by decide), u2_sn hj, rRes_k (by decide), pl_keep (f := fun j => _ + j) _ 5 (by decide), pl_keep (f := fun d => d) _ 5 (by decide)]
theorem rNothing_k {R : S2} {o k : Nat} (h3 : k ≠ 3) (h4 : k ≠ 4) (h5 : k ≠ 5) : rNothing R o k = R k := by
  unfold rNothing
  rw [u1_n h4, u2_n h5, rNo_k h3]
theorem rNothing_5 {R : S2} {o j : Nat} (hj : j ≠ 5) : rNothing R o 5 j = R 5 j := by
  unfold rNothing
  rw [u1_n (by decide), u2_sn hj, rNo_k (by decide)]
def uAdd (U : S2) (k : Nat) (a b : Int32) : S2 := u2 (u2 (u2 U 0 k a) 1 k b) 2 0 (U 2 0 + 1)
def uw (U : S2) (i : Nat) : Nat := (U 0 i).toNatClampNeg
def okU (U : S2) (k : Nat) : Prop := ∀ i, i < k → U 0 i = nI (uw U i) ∧ uw U i < 6
def uB (U R : S2) (o i : Nat) : Bool := decide (¬ rLook R o (uw U i) = U 1 i)
/-- how many agree, from the first on -/
def uN (U R : S2) (o k : Nat) : Nat := ff (uB U R o) k
abbrev uAg (U R : S2) (o k : Nat) : Prop := uN U R o k = k
def yLk (Y R : S2) (o s n : Nat) : S2 := fl (fun w Y => u2 Y 1 (s * 6 + w) (rLook R o w)) n Y
theorem yLk_k {Y R : S2} {o s k : Nat} (hk : k ≠ 1) (n : Nat) : yLk Y R o s n k = Y k := fl_inv (σ := S2) (fun S => S k = Y k) rfl (fun i S h => by rw [u2_n hk]; exact h) n
def yAdd (Y R : S2) (o s : Nat) (l : Int32) : S2 := u2 (yLk (u2 Y 0 s l) R o s 6) 2 0 (Y 2 0 + 1)
def yAl (Y : S2) (s i w n : Nat) : Int32 := fl (fun j a => if Y 1 (j * 6 + w) = Y 1 (i * 6 + w) then a + 1 else a) n 0
def yMo (Y : S2) (s w n : Nat) : Int32 := fl (fun i a => if a < yAl Y s i w s then yAl Y s i w s else a) n 0
def yBe (Y : S2) (s n : Nat) : Int32 × Int32 := fl (fun i b => if yMo Y s (1 + i) s < b.2 then (nI (1 + i), yMo Y s (1 + i) s) else b) n (0, yMo Y s 0 s)
def rm_X4_runCycle : Room := { frames := 4, cells := 0, slots := 0, locals := 97 }
set_option maxRecDepth 100000 in
set_option maxHeartbeats 4000000 in
theorem c_X4_runCycle (V : VT) (sa : Nat) (sv : Int32) (ca cb : Nat → Nat) (A B : S2) (ad : Nat → Nat) (R : S2) (n : Nat) (hn : R 5 0 = nI n) (hn6 : n ≤ 6) (o : Nat) (ho : R 5 1 = nI o) (ho4 : o ≤ 4) (m : Nat) (hm : rLinks R = nI m) (hm7 : m ≤ 7) (hat : okAt R o) : CV V yX4_runCycle cX4_runCycle 3 rm_X4_runCycle [.ref sa, .ref (ad 0)] (wSd sa (ca 0) (cb 0) sv ++ wCopy V ca A ++ wCopy V cb B ++ wRing V ad R) (fun w_ => w_ = wSd sa (ca 0) (cb 0) ((cyc R A B n o m).2.2.2) ++ wCopy V ca ((cyc R A B n o m).1) ++ wCopy V cb ((cyc R A B n o m).2.1) ++ wRing V ad ((cyc R A B n o m).2.2.1)) := by
  refine CV_intro (by decide) (Nat.le_of_ble_eq_true rfl) (fun K cx hci hret => ?_)
  show G V K 3 0 0 (wSd sa (ca 0) (cb 0) sv ++ wCopy V ca A ++ wCopy V cb B ++ wRing V ad R) 0 [(0, .ref sa), (1, .ref (ad 0))] []
  generalize hRf : cyc R A B n o m = Rf at hret
  have h25 : ∀ (A1 B1 R1 : S2) (v1 : Int32), R1 5 0 = nI n → (A1, B1, cEnd (rTick v1 R1 n), v1) = Rf → G V K 3 0 0 (wSd sa (ca 0) (cb 0) v1 ++ wCopy V ca A1 ++ wCopy V cb B1 ++ wRing V ad R1) 25 [(0, .ref sa), (1, .ref (ad 0))] [] := by
    intro A1 B1 R1 v1 hn1 hRf
    refine g_iconst (v := 0) cx dX4_runCycle_25 (by decide) ?_
    refine g_istore_n (lv' := [(0, .ref sa), (1, .ref (ad 0)), (2, .int 0)]) cx dX4_runCycle_26 (by decide) rfl ?_
    refine rf_dn (P := fun i1 => G V K 3 0 0 (wSd sa (ca 0) (cb 0) v1 ++ wCopy V ca A1 ++ wCopy V cb B1 ++ wRing V ad (rTick v1 R1 i1)) 27 [(0, .ref sa), (1, .ref (ad 0)), (2, .int (nI i1))] []) (n) (fun i1 hi1 ihi1 => ?_) ?_
    · skip
      refine g_iload_n (v := nI i1) cx dX4_runCycle_27 rfl ?_
      refine g_aload_n (v := ad 0) cx dX4_runCycle_28 rfl ?_
      refine g_get (v := .int ((rTick v1 R1 i1) 5 0)) cx fk_X4_38 dX4_runCycle_29 9 rfl rfl ?_
      refine g_icmp_ge cx 68 dX4_runCycle_32 (by decide) (fun hw1 => absurd hw1 (rf_geMN rfl ((congrFun (rTick_k (by decide) _) 0).trans hn1) (by omega) (by omega) (by omega))) (fun hw1 => ?_)
      refine g_aload_n (v := sa) cx dX4_runCycle_35 rfl ?_
      refine g_get (v := .int v1) cx fk_X4_21 dX4_runCycle_36 0 rfl rfl ?_
      refine g_iload_n (v := nI i1) cx dX4_runCycle_39 rfl ?_
      refine g_ishr cx dX4_runCycle_40 ?_
      refine g_iconst (v := 1) cx dX4_runCycle_41 (by decide) ?_
      refine g_iand cx dX4_runCycle_42 ?_
      refine g_iconst (v := 1) cx dX4_runCycle_43 (by decide) ?_
      refine g_icmp_ne cx 57 dX4_runCycle_44 (by decide) (fun hw2 => ?_) (fun hw2 => ?_)
      · skip
        refine g_aload_n (v := ad 0) cx dX4_runCycle_57 rfl ?_
        refine g_iload_n (v := nI i1) cx dX4_runCycle_58 rfl ?_
        refine k_callv (ws' := wSd sa (ca 0) (cb 0) v1 ++ wCopy V ca A1 ++ wCopy V cb B1 ++ wRing V ad (rMiss (rTick v1 R1 i1) i1)) (As := [.int (nI i1)]) (rest := []) cx (c_X3_countMiss V ad (rTick v1 R1 i1) (nI i1) i1 rfl (by omega)) ml_X4_45 dX4_runCycle_59 [9, 10, 11, 12, 13, 14] rfl rfl [ad 0, ad 1, ad 2, ad 3, ad 4, ad 5] rfl rfl rfl 0 3 rfl rfl rfl rfl rfl (Nat.le_of_ble_eq_true rfl) ⟨Nat.le_of_ble_eq_true rfl, Nat.le_of_ble_eq_true rfl⟩ ⟨Nat.le_refl _, Nat.le_refl _⟩ ?_
        refine g_iinc (x := nI i1) (v := nI (i1 + 1)) (lv' := [(0, .ref sa), (1, .ref (ad 0)), (2, .int (nI (i1 + 1)))]) cx dX4_runCycle_62 rfl (by decide) (nI_add _ _) rfl ?_
        refine g_goto cx 27 dX4_runCycle_65 (by decide) ?_
        rw [rTick_s, if_neg hw2] at ihi1
        exact ihi1
      · skip
        refine g_aload_n (v := ad 0) cx dX4_runCycle_47 rfl ?_
        refine g_iload_n (v := nI i1) cx dX4_runCycle_48 rfl ?_
        refine g_iconst (v := 5) cx dX4_runCycle_49 (by decide) ?_
        refine g_iconst (v := 0) cx dX4_runCycle_50 (by decide) ?_
        refine k_callv (ws' := wSd sa (ca 0) (cb 0) v1 ++ wCopy V ca A1 ++ wCopy V cb B1 ++ wRing V ad (u2 (rTick v1 R1 i1) 0 (i1 * 9 + 5) 0)) (As := [.int (nI i1), .int 5, .int 0]) (rest := []) cx (c_X3_putDrive V ad (rTick v1 R1 i1) (nI i1) 5 0 (i1 * 9 + 5) (rf_add (rf_mul rfl rfl) (nl 5)) (by omega)) ml_X4_41 dX4_runCycle_51 [9, 10, 11, 12, 13, 14] rfl rfl [ad 0, ad 1, ad 2, ad 3, ad 4, ad 5] rfl rfl rfl 0 3 rfl rfl rfl rfl rfl (Nat.le_of_ble_eq_true rfl) ⟨Nat.le_of_ble_eq_true rfl, Nat.le_of_ble_eq_true rfl⟩ ⟨Nat.le_refl _, Nat.le_refl _⟩ ?_
        refine g_goto cx 62 dX4_runCycle_54 (by decide) ?_
        refine g_iinc (x := nI i1) (v := nI (i1 + 1)) (lv' := [(0, .ref sa), (1, .ref (ad 0)), (2, .int (nI (i1 + 1)))]) cx dX4_runCycle_62 rfl (by decide) (nI_add _ _) rfl ?_
        refine g_goto cx 27 dX4_runCycle_65 (by decide) ?_
        rw [rTick_s, if_pos hw2] at ihi1
        exact ihi1
    · skip
      refine g_iload_n (v := nI n) cx dX4_runCycle_27 rfl ?_
      refine g_aload_n (v := ad 0) cx dX4_runCycle_28 rfl ?_
      refine g_get (v := .int ((rTick v1 R1 n) 5 0)) cx fk_X4_38 dX4_runCycle_29 9 rfl rfl ?_
      refine g_icmp_ge cx 68 dX4_runCycle_32 (by decide) (fun hw3 => ?_) (fun hw3 => absurd (rf_geMP rfl ((congrFun (rTick_k (by decide) _) 0).trans hn1) (by omega) (by omega) (by omega)) hw3)
      refine g_aload_n (v := ad 0) cx dX4_runCycle_68 rfl ?_
      refine g_iconst (v := 0) cx dX4_runCycle_69 (by decide) ?_
      refine g_put (ws' := wSd sa (ca 0) (cb 0) v1 ++ wCopy V ca A1 ++ wCopy V cb B1 ++ wRing V ad (u2 (rTick v1 R1 n) 5 6 0)) cx fk_X4_25 dX4_runCycle_70 9 rfl (rfl) (rfl) (Nat.le_of_ble_eq_true rfl) rfl ?_
      refine g_aload_n (v := ad 0) cx dX4_runCycle_73 rfl ?_
      refine g_dup cx dX4_runCycle_74 rfl ?_
      refine g_get (v := .int ((rTick v1 R1 n) 5 3)) cx fk_X4_49 dX4_runCycle_75 9 rfl rfl ?_
      refine g_iconst (v := 1) cx dX4_runCycle_78 (by decide) ?_
      refine g_iadd cx dX4_runCycle_79 ?_
      refine g_put (ws' := wSd sa (ca 0) (cb 0) v1 ++ wCopy V ca A1 ++ wCopy V cb B1 ++ wRing V ad (u2 (u2 (rTick v1 R1 n) 5 6 0) 5 3 (((rTick v1 R1 n) 5 3) + 1))) cx fk_X4_49 dX4_runCycle_80 9 rfl (rfl) (rfl) (Nat.le_of_ble_eq_true rfl) rfl ?_
      exact hret _ _ _ dX4_runCycle_83 (by rw [← hRf]; rfl)
  refine g_aload_n (v := sa) cx dX4_runCycle_0 rfl ?_
  refine g_iconst (v := 0) cx dX4_runCycle_1 (by decide) ?_
  refine g_put (ws' := wSd sa (ca 0) (cb 0) 0 ++ wCopy V ca A ++ wCopy V cb B ++ wRing V ad R) cx fk_X4_21 dX4_runCycle_2 0 rfl (rfl) (rfl) (Nat.le_of_ble_eq_true rfl) rfl ?_
  refine g_aload_n (v := ad 0) cx dX4_runCycle_5 rfl ?_
  refine g_get (v := .int (R 5 6)) cx fk_X4_25 dX4_runCycle_6 9 rfl rfl ?_
  refine g_if_eq cx 20 dX4_runCycle_9 (by decide) (fun hw4 => ?_) (fun hw4 => ?_)
  · skip
    refine g_aload_n (v := sa) cx dX4_runCycle_20 rfl ?_
    refine g_aload_n (v := ad 0) cx dX4_runCycle_21 rfl ?_
    refine k_callv (ws' := wSd sa (ca 0) (cb 0) ((snd 0 R A B n o m).2.2.2) ++ wCopy V ca ((snd 0 R A B n o m).1) ++ wCopy V cb ((snd 0 R A B n o m).2.1) ++ wRing V ad ((snd 0 R A B n o m).2.2.1)) (As := [.ref (ad 0)]) (rest := []) cx (c_X4_send V sa 0 ca cb A B ad R n hn (by omega) o ho (by omega) m hm (by omega) hat) ml_X4_35 dX4_runCycle_22 [0, 1, 2, 3, 4, 5, 6, 7, 8, 9, 10, 11, 12, 13, 14] rfl rfl [sa, ca 0, ca 1, ca 2, ca 3, cb 0, cb 1, cb 2, cb 3, ad 0, ad 1, ad 2, ad 3, ad 4, ad 5] rfl rfl rfl 0 4 rfl rfl rfl rfl rfl (Nat.le_of_ble_eq_true rfl) ⟨Nat.le_of_ble_eq_true rfl, Nat.le_of_ble_eq_true rfl⟩ ⟨Nat.le_refl _, Nat.le_refl _⟩ ?_
    exact h25 _ _ _ _ ((snd_5 (by decide)).trans hn) (by rw [← hRf, cyc, if_pos hw4])
  · skip
    refine g_aload_n (v := sa) cx dX4_runCycle_12 rfl ?_
    refine g_aload_n (v := ad 0) cx dX4_runCycle_13 rfl ?_
    refine k_callv (ws' := wSd sa (ca 0) (cb 0) 0 ++ wCopy V ca A ++ wCopy V cb B ++ wRing V ad (rNothing R o)) (As := [.ref (ad 0)]) (rest := []) cx (c_X4_sendNothing V sa 0 ca cb A B ad R o ho (by omega)) ml_X4_31 dX4_runCycle_14 [0, 9, 10, 11, 12, 13, 14] rfl rfl [sa, ad 0, ad 1, ad 2, ad 3, ad 4, ad 5] rfl rfl rfl 0 4 rfl rfl rfl rfl rfl (Nat.le_of_ble_eq_true rfl) ⟨Nat.le_of_ble_eq_true rfl, Nat.le_of_ble_eq_true rfl⟩ ⟨Nat.le_refl _, Nat.le_refl _⟩ ?_
    refine g_goto cx 25 dX4_runCycle_17 (by decide) ?_
    exact h25 _ _ _ _ ((rNothing_5 (by decide)).trans hn) (by rw [← hRf, cyc, if_neg hw4])
def rm_X5_append : Room := { frames := 0, cells := 0, slots := 0, locals := 0 }
set_option maxRecDepth 100000 in
set_option maxHeartbeats 4000000 in
theorem c_X5_append (V : VT) (ud : Nat → Nat) (U : S2) (a b : Int32) (k : Nat) (hk : U 2 0 = nI k) (hk6 : k < 6) : CV V yX5_append cX5_append 3 rm_X5_append [.ref (ud 0), .int a, .int b] (wSight V ud U) (fun w_ => w_ = wSight V ud (uAdd U k a b)) := by
  refine CV_intro (by decide) (Nat.le_of_ble_eq_true rfl) (fun K cx hci hret => ?_)
  show G V K 3 0 0 (wSight V ud U) 0 [(0, .ref (ud 0)), (1, .int a), (2, .int b)] []
  refine g_aload_n (v := ud 0) cx dX5_append_0 rfl ?_
  refine g_get (v := .int (U 2 0)) cx fk_X5_18 dX5_append_1 0 rfl rfl ?_
  refine g_bipush (v := 6) cx dX5_append_4 (by decide) ?_
  refine g_icmp_ge cx 39 dX5_append_6 (by decide) (fun hw1 => absurd hw1 (rf_geMN hk (nl 6) (by omega) (by omega) (by omega))) (fun hw1 => ?_)
  refine g_aload_n (v := ud 0) cx dX5_append_9 rfl ?_
  refine g_get (v := .ref (ud 1)) cx fk_X5_9 dX5_append_10 0 rfl rfl ?_
  refine g_aload_n (v := ud 0) cx dX5_append_13 rfl ?_
  refine g_get (v := .int (U 2 0)) cx fk_X5_18 dX5_append_14 0 rfl rfl ?_
  refine g_iload_n (v := a) cx dX5_append_17 rfl ?_
  refine g_iast (ws' := wSight V ud (u2 U 0 k a)) cx dX5_append_18 1 k rfl (hk) (by omega) (by first | decide | omega) rfl ?_
  refine g_aload_n (v := ud 0) cx dX5_append_19 rfl ?_
  refine g_get (v := .ref (ud 2)) cx fk_X5_15 dX5_append_20 0 rfl rfl ?_
  refine g_aload_n (v := ud 0) cx dX5_append_23 rfl ?_
  refine g_get (v := .int (U 2 0)) cx fk_X5_18 dX5_append_24 0 rfl rfl ?_
  refine g_iload_n (v := b) cx dX5_append_27 rfl ?_
  refine g_iast (ws' := wSight V ud (u2 (u2 U 0 k a) 1 k b)) cx dX5_append_28 2 k rfl (hk) (by omega) (by first | decide | omega) rfl ?_
  refine g_aload_n (v := ud 0) cx dX5_append_29 rfl ?_
  refine g_dup cx dX5_append_30 rfl ?_
  refine g_get (v := .int (U 2 0)) cx fk_X5_18 dX5_append_31 0 rfl rfl ?_
  refine g_iconst (v := 1) cx dX5_append_34 (by decide) ?_
  refine g_iadd cx dX5_append_35 ?_
  refine g_put (ws' := wSight V ud (u2 (u2 (u2 U 0 k a) 1 k b) 2 0 ((U 2 0) + 1))) cx fk_X5_18 dX5_append_36 0 rfl (rfl) (rfl) (Nat.le_of_ble_eq_true rfl) rfl ?_
  exact hret _ _ _ dX5_append_39 (rfl)
def rm_X5_agreeWith : Room := { frames := 2, cells := 0, slots := 0, locals := 43 }
set_option maxRecDepth 100000 in
set_option maxHeartbeats 4000000 in
theorem c_X5_agreeWith (V : VT) (ud : Nat → Nat) (U : S2) (ad : Nat → Nat) (R : S2) (k : Nat) (hk : U 2 0 = nI k) (hk6 : k ≤ 6) (hU : okU U k) (o : Nat) (ho : R 5 1 = nI o) (ho4 : o ≤ 4) : CI V yX5_agreeWith cX5_agreeWith 3 .boolean rm_X5_agreeWith [.ref (ud 0), .ref (ad 0)] (wSight V ud U ++ wRing V ad R) (fun r_ w_ => r_ = bI (uAg U R o k) ∧ w_ = wSight V ud U ++ wRing V ad R) := by
  refine CI_intro (by decide) (Nat.le_of_ble_eq_true rfl) (fun K cx hret => ?_)
  show G V K 3 0 0 (wSight V ud U ++ wRing V ad R) 0 [(0, .ref (ud 0)), (1, .ref (ad 0))] []
  refine g_iconst (v := 0) cx dX5_agreeWith_0 (by decide) ?_
  refine g_istore_n (lv' := [(0, .ref (ud 0)), (1, .ref (ad 0)), (2, .int 0)]) cx dX5_agreeWith_1 (by decide) rfl ?_
  refine rf_dn (P := fun i1 => G V K 3 0 0 (wSight V ud U ++ wRing V ad R) 2 [(0, .ref (ud 0)), (1, .ref (ad 0)), (2, .int (nI i1))] []) (uN U R o k) (fun i1 hi1 ihi1 => ?_) ?_
  · skip
    have hle : uN U R o k ≤ k := ff_le _ k
    have hu := hU i1 (by omega)
    have hno : rLook R o (uw U i1) = U 1 i1 := Decidable.of_not_not (of_decide_eq_false (ff_no (uB U R o) k i1 hi1))
    refine g_iload_n (v := nI i1) cx dX5_agreeWith_2 rfl ?_
    refine g_aload_n (v := ud 0) cx dX5_agreeWith_3 rfl ?_
    refine g_get (v := .int (U 2 0)) cx fk_X5_18 dX5_agreeWith_4 0 rfl rfl ?_
    refine g_icmp_ge cx 37 dX5_agreeWith_7 (by decide) (fun hw1 => absurd hw1 (rf_geMN rfl hk (by omega) (by omega) (by omega))) (fun hw1 => ?_)
    refine g_aload_n (v := ad 0) cx dX5_agreeWith_10 rfl ?_
    refine g_aload_n (v := ud 0) cx dX5_agreeWith_11 rfl ?_
    refine g_get (v := .ref (ud 1)) cx fk_X5_9 dX5_agreeWith_12 0 rfl rfl ?_
    refine g_iload_n (v := nI i1) cx dX5_agreeWith_15 rfl ?_
    refine g_iald cx dX5_agreeWith_16 1 i1 rfl (rfl) (by omega) (by first | decide | omega) ?_
    refine k_calli (r0 := rLook R o (uw U i1)) (ws' := wSight V ud U ++ wRing V ad R) (As := [.int (U 0 i1)]) (rest := []) cx (c_X3_look V ad R (U 0 i1) (uw U i1) o hu.1 (by omega) ho (by omega)) ml_X5_22 dX5_agreeWith_17 [3, 4, 5, 6, 7, 8] rfl rfl [ad 0, ad 1, ad 2, ad 3, ad 4, ad 5] rfl rfl rfl 0 3 rfl rfl rfl rfl rfl (Nat.le_of_ble_eq_true rfl) ⟨Nat.le_of_ble_eq_true rfl, Nat.le_of_ble_eq_true rfl⟩ ⟨Nat.le_refl _, Nat.le_refl _⟩ ?_
    refine g_aload_n (v := ud 0) cx dX5_agreeWith_20 rfl ?_
    refine g_get (v := .ref (ud 2)) cx fk_X5_15 dX5_agreeWith_21 0 rfl rfl ?_
    refine g_iload_n (v := nI i1) cx dX5_agreeWith_24 rfl ?_
    refine g_iald cx dX5_agreeWith_25 2 i1 rfl (rfl) (by omega) (by first | decide | omega) ?_
    refine g_icmp_eq cx 31 dX5_agreeWith_26 (by decide) (fun hw2 => ?_) (fun hw2 => absurd (hno) hw2)
    refine g_iinc (x := nI i1) (v := nI (i1 + 1)) (lv' := [(0, .ref (ud 0)), (1, .ref (ad 0)), (2, .int (nI (i1 + 1)))]) cx dX5_agreeWith_31 rfl (by decide) (nI_add _ _) rfl ?_
    refine g_goto cx 2 dX5_agreeWith_34 (by decide) ?_
    exact ihi1
  · skip
    have hle : uN U R o k ≤ k := ff_le _ k
    rcases Nat.lt_or_ge (uN U R o k) k with he | he
    · have hy : ¬ rLook R o (uw U (uN U R o k)) = U 1 (uN U R o k) := of_decide_eq_true (ff_yes (uB U R o) k he)
      have hu := hU _ he
      refine g_iload_n (v := nI (uN U R o k)) cx dX5_agreeWith_2 rfl ?_
      refine g_aload_n (v := ud 0) cx dX5_agreeWith_3 rfl ?_
      refine g_get (v := .int (U 2 0)) cx fk_X5_18 dX5_agreeWith_4 0 rfl rfl ?_
      refine g_icmp_ge cx 37 dX5_agreeWith_7 (by decide) (fun hw3 => absurd hw3 (rf_geMN rfl hk (by omega) (by omega) (by omega))) (fun hw3 => ?_)
      refine g_aload_n (v := ad 0) cx dX5_agreeWith_10 rfl ?_
      refine g_aload_n (v := ud 0) cx dX5_agreeWith_11 rfl ?_
      refine g_get (v := .ref (ud 1)) cx fk_X5_9 dX5_agreeWith_12 0 rfl rfl ?_
      refine g_iload_n (v := nI (uN U R o k)) cx dX5_agreeWith_15 rfl ?_
      refine g_iald cx dX5_agreeWith_16 1 (uN U R o k) rfl (rfl) (by omega) (by first | decide | omega) ?_
      refine k_calli (r0 := rLook R o (uw U (uN U R o k))) (ws' := wSight V ud U ++ wRing V ad R) (As := [.int (U 0 (uN U R o k))]) (rest := []) cx (c_X3_look V ad R (U 0 (uN U R o k)) (uw U (uN U R o k)) o hu.1 (by omega) ho (by omega)) ml_X5_22 dX5_agreeWith_17 [3, 4, 5, 6, 7, 8] rfl rfl [ad 0, ad 1, ad 2, ad 3, ad 4, ad 5] rfl rfl rfl 0 3 rfl rfl rfl rfl rfl (Nat.le_of_ble_eq_true rfl) ⟨Nat.le_of_ble_eq_true rfl, Nat.le_of_ble_eq_true rfl⟩ ⟨Nat.le_refl _, Nat.le_refl _⟩ ?_
      refine g_aload_n (v := ud 0) cx dX5_agreeWith_20 rfl ?_
      refine g_get (v := .ref (ud 2)) cx fk_X5_15 dX5_agreeWith_21 0 rfl rfl ?_
      refine g_iload_n (v := nI (uN U R o k)) cx dX5_agreeWith_24 rfl ?_
      refine g_iald cx dX5_agreeWith_25 2 (uN U R o k) rfl (rfl) (by omega) (by first | decide | omega) ?_
      refine g_icmp_eq cx 31 dX5_agreeWith_26 (by decide) (fun hw4 => absurd hw4 (hy)) (fun hw4 => ?_)
      refine g_iconst (v := 0) cx dX5_agreeWith_29 (by decide) ?_
      exact hret _ _ _ _ dX5_agreeWith_30 (by first | rfl | exact rf_bnar) (⟨bI_f (by omega), rfl⟩)
    · have he2 : uN U R o k = k := Nat.le_antisymm (ff_le _ k) he
      refine g_iload_n (v := nI (uN U R o k)) cx dX5_agreeWith_2 rfl ?_
      refine g_aload_n (v := ud 0) cx dX5_agreeWith_3 rfl ?_
      refine g_get (v := .int (U 2 0)) cx fk_X5_18 dX5_agreeWith_4 0 rfl rfl ?_
      refine g_icmp_ge cx 37 dX5_agreeWith_7 (by decide) (fun hw5 => ?_) (fun hw5 => absurd (rf_geMP rfl hk (by omega) (by omega) (by omega)) hw5)
      refine g_iconst (v := 1) cx dX5_agreeWith_37 (by decide) ?_
      exact hret _ _ _ _ dX5_agreeWith_38 (by first | rfl | exact rf_bnar) (⟨bI_t he2, rfl⟩)
def rm_X6_append : Room := { frames := 2, cells := 0, slots := 0, locals := 43 }
set_option maxRecDepth 100000 in
set_option maxHeartbeats 4000000 in
theorem c_X6_append (V : VT) (yd : Nat → Nat) (Y : S2) (ad : Nat → Nat) (R : S2) (l : Int32) (s : Nat) (hs : Y 2 0 = nI s) (hs7 : s < 7) (o : Nat) (ho : R 5 1 = nI o) (ho4 : o ≤ 4) : CV V yX6_append cX6_append 4 rm_X6_append [.ref (yd 0), .int l, .ref (ad 0)] (wSusp V yd Y ++ wRing V ad R) (fun w_ => w_ = wSusp V yd (yAdd Y R o s l) ++ wRing V ad R) := by
  refine CV_intro (by decide) (Nat.le_of_ble_eq_true rfl) (fun K cx hci hret => ?_)
  show G V K 4 0 0 (wSusp V yd Y ++ wRing V ad R) 0 [(0, .ref (yd 0)), (1, .int l), (2, .ref (ad 0))] []
  refine g_aload_n (v := yd 0) cx dX6_append_0 rfl ?_
  refine g_get (v := .int (Y 2 0)) cx fk_X6_18 dX6_append_1 0 rfl rfl ?_
  refine g_bipush (v := 7) cx dX6_append_4 (by decide) ?_
  refine g_icmp_ge cx 62 dX6_append_6 (by decide) (fun hw1 => absurd hw1 (rf_geMN hs (nl 7) (by omega) (by omega) (by omega))) (fun hw1 => ?_)
  refine g_aload_n (v := yd 0) cx dX6_append_9 rfl ?_
  refine g_get (v := .ref (yd 1)) cx fk_X6_9 dX6_append_10 0 rfl rfl ?_
  refine g_aload_n (v := yd 0) cx dX6_append_13 rfl ?_
  refine g_get (v := .int (Y 2 0)) cx fk_X6_18 dX6_append_14 0 rfl rfl ?_
  refine g_iload_n (v := l) cx dX6_append_17 rfl ?_
  refine g_iast (ws' := wSusp V yd (u2 Y 0 s l) ++ wRing V ad R) cx dX6_append_18 1 s rfl (hs) (by omega) (by first | decide | omega) rfl ?_
  refine g_iconst (v := 0) cx dX6_append_19 (by decide) ?_
  refine g_istore_n (lv' := [(0, .ref (yd 0)), (1, .int l), (2, .ref (ad 0)), (3, .int 0)]) cx dX6_append_20 (by decide) rfl ?_
  refine rf_dn (P := fun i1 => G V K 4 0 0 (wSusp V yd (yLk (u2 Y 0 s l) R o s i1) ++ wRing V ad R) 21 [(0, .ref (yd 0)), (1, .int l), (2, .ref (ad 0)), (3, .int (nI i1))] []) (6) (fun i1 hi1 ihi1 => ?_) ?_
  · skip
    have h6 : i1 < 6 := hi1
    refine g_iload_n (v := nI i1) cx dX6_append_21 rfl ?_
    refine g_bipush (v := 6) cx dX6_append_22 (by decide) ?_
    refine g_icmp_ge cx 52 dX6_append_24 (by decide) (fun hw2 => absurd hw2 (rf_geMN rfl (nl 6) (by omega) (by omega) (by omega))) (fun hw2 => ?_)
    refine g_aload_n (v := yd 0) cx dX6_append_27 rfl ?_
    refine g_get (v := .ref (yd 2)) cx fk_X6_15 dX6_append_28 0 rfl rfl ?_
    refine g_aload_n (v := yd 0) cx dX6_append_31 rfl ?_
    refine g_get (v := .int ((yLk (u2 Y 0 s l) R o s i1) 2 0)) cx fk_X6_18 dX6_append_32 0 rfl rfl ?_
    refine g_bipush (v := 6) cx dX6_append_35 (by decide) ?_
    refine g_imul cx dX6_append_37 ?_
    refine g_iload_n (v := nI i1) cx dX6_append_38 rfl ?_
    refine g_iadd cx dX6_append_39 ?_
    refine g_aload_n (v := ad 0) cx dX6_append_40 rfl ?_
    refine g_iload_n (v := nI i1) cx dX6_append_41 rfl ?_
    refine k_calli (r0 := rLook R o i1) (ws' := wSusp V yd (yLk (u2 Y 0 s l) R o s i1) ++ wRing V ad R) (As := [.int (nI i1)]) (rest := [.int ((((yLk (u2 Y 0 s l) R o s i1) 2 0) * 6) + (nI i1)), .ref (yd 2)]) cx (c_X3_look V ad R (nI i1) i1 o rfl (by omega) ho (by omega)) ml_X6_22 dX6_append_42 [3, 4, 5, 6, 7, 8] rfl rfl [ad 0, ad 1, ad 2, ad 3, ad 4, ad 5] rfl rfl rfl 0 3 rfl rfl rfl rfl rfl (Nat.le_of_ble_eq_true rfl) ⟨Nat.le_of_ble_eq_true rfl, Nat.le_of_ble_eq_true rfl⟩ ⟨Nat.le_refl _, Nat.le_refl _⟩ ?_
    refine g_iast (ws' := wSusp V yd (u2 (yLk (u2 Y 0 s l) R o s i1) 1 ((s * 6) + i1) (rLook R o i1)) ++ wRing V ad R) cx dX6_append_45 2 ((s * 6) + i1) rfl (rf_add (rf_mul ((congrFun (yLk_k (by decide) _) 0).trans hs) (nl 6)) rfl) (by omega) (by first | decide | omega) rfl ?_
    refine g_iinc (x := nI i1) (v := nI (i1 + 1)) (lv' := [(0, .ref (yd 0)), (1, .int l), (2, .ref (ad 0)), (3, .int (nI (i1 + 1)))]) cx dX6_append_46 rfl (by decide) (nI_add _ _) rfl ?_
    refine g_goto cx 21 dX6_append_49 (by decide) ?_
    exact ihi1
  · skip
    refine g_iload_n (v := nI 6) cx dX6_append_21 rfl ?_
    refine g_bipush (v := 6) cx dX6_append_22 (by decide) ?_
    refine g_icmp_ge cx 52 dX6_append_24 (by decide) (fun hw3 => ?_) (fun hw3 => absurd (rf_geMP rfl (nl 6) (by omega) (by omega) (by omega)) hw3)
    refine g_aload_n (v := yd 0) cx dX6_append_52 rfl ?_
    refine g_dup cx dX6_append_53 rfl ?_
    refine g_get (v := .int ((yLk (u2 Y 0 s l) R o s 6) 2 0)) cx fk_X6_18 dX6_append_54 0 rfl rfl ?_
    refine g_iconst (v := 1) cx dX6_append_57 (by decide) ?_
    refine g_iadd cx dX6_append_58 ?_
    refine g_put (ws' := wSusp V yd (u2 (yLk (u2 Y 0 s l) R o s 6) 2 0 (((yLk (u2 Y 0 s l) R o s 6) 2 0) + 1)) ++ wRing V ad R) cx fk_X6_18 dX6_append_59 0 rfl (rfl) (rfl) (Nat.le_of_ble_eq_true rfl) rfl ?_
    exact hret _ _ _ dX6_append_62 (by rw [yAdd, show Y 2 0 = (yLk (u2 Y 0 s l) R o s 6) 2 0 from (congrFun (yLk_k (Y := u2 Y 0 s l) (k := 2) (by decide) 6) 0).symm])
def rm_X6_alikeWith : Room := { frames := 0, cells := 0, slots := 0, locals := 0 }
set_option maxRecDepth 100000 in
set_option maxHeartbeats 4000000 in
theorem c_X6_alikeWith (V : VT) (yd : Nat → Nat) (Y : S2) (x y : Int32) (i w : Nat) (hx : x = nI i) (hy : y = nI w)  (hw : w < 6) (s : Nat) (hs : Y 2 0 = nI s) (hs7 : s ≤ 7) (hi : i < s) : CI V yX6_alikeWith cX6_alikeWith 5 .int rm_X6_alikeWith [.ref (yd 0), .int x, .int y] (wSusp V yd Y) (fun r_ w_ => r_ = yAl Y s i w s ∧ w_ = wSusp V yd Y) := by
  refine CI_intro (by decide) (Nat.le_of_ble_eq_true rfl) (fun K cx hret => ?_)
  show G V K 5 0 0 (wSusp V yd Y) 0 [(0, .ref (yd 0)), (1, .int x), (2, .int y)] []
  refine g_iconst (v := 0) cx dX6_alikeWith_0 (by decide) ?_
  refine g_istore_n (lv' := [(0, .ref (yd 0)), (1, .int x), (2, .int y), (3, .int 0)]) cx dX6_alikeWith_1 (by decide) rfl ?_
  refine g_iconst (v := 0) cx dX6_alikeWith_2 (by decide) ?_
  refine g_istore (lv' := [(0, .ref (yd 0)), (1, .int x), (2, .int y), (3, .int 0), (4, .int 0)]) cx dX6_alikeWith_3 (by decide) rfl ?_
  refine rf_dn (P := fun i1 => G V K 5 0 0 (wSusp V yd Y) 5 [(0, .ref (yd 0)), (1, .int x), (2, .int y), (3, .int (yAl Y s i w i1)), (4, .int (nI i1))] []) (s) (fun i1 hi1 ihi1 => ?_) ?_
  · skip
    refine g_iload (v := nI i1) cx dX6_alikeWith_5 rfl ?_
    refine g_aload_n (v := yd 0) cx dX6_alikeWith_7 rfl ?_
    refine g_get (v := .int (Y 2 0)) cx fk_X6_18 dX6_alikeWith_8 0 rfl rfl ?_
    refine g_icmp_ge cx 49 dX6_alikeWith_11 (by decide) (fun hw1 => absurd hw1 (rf_geMN rfl hs (by omega) (by omega) (by omega))) (fun hw1 => ?_)
    refine g_aload_n (v := yd 0) cx dX6_alikeWith_14 rfl ?_
    refine g_get (v := .ref (yd 2)) cx fk_X6_15 dX6_alikeWith_15 0 rfl rfl ?_
    refine g_iload (v := nI i1) cx dX6_alikeWith_18 rfl ?_
    refine g_bipush (v := 6) cx dX6_alikeWith_20 (by decide) ?_
    refine g_imul cx dX6_alikeWith_22 ?_
    refine g_iload_n (v := y) cx dX6_alikeWith_23 rfl ?_
    refine g_iadd cx dX6_alikeWith_24 ?_
    refine g_iald cx dX6_alikeWith_25 2 ((i1 * 6) + w) rfl (rf_add (rf_mul rfl (nl 6)) hy) (by omega) (by first | decide | omega) ?_
    refine g_aload_n (v := yd 0) cx dX6_alikeWith_26 rfl ?_
    refine g_get (v := .ref (yd 2)) cx fk_X6_15 dX6_alikeWith_27 0 rfl rfl ?_
    refine g_iload_n (v := x) cx dX6_alikeWith_30 rfl ?_
    refine g_bipush (v := 6) cx dX6_alikeWith_31 (by decide) ?_
    refine g_imul cx dX6_alikeWith_33 ?_
    refine g_iload_n (v := y) cx dX6_alikeWith_34 rfl ?_
    refine g_iadd cx dX6_alikeWith_35 ?_
    refine g_iald cx dX6_alikeWith_36 2 ((i * 6) + w) rfl (rf_add (rf_mul hx (nl 6)) hy) (by omega) (by first | decide | omega) ?_
    refine g_icmp_ne cx 43 dX6_alikeWith_37 (by decide) (fun hw2 => ?_) (fun hw2 => ?_)
    · skip
      refine g_iinc (x := nI i1) (v := nI (i1 + 1)) (lv' := [(0, .ref (yd 0)), (1, .int x), (2, .int y), (3, .int (yAl Y s i w i1)), (4, .int (nI (i1 + 1)))]) cx dX6_alikeWith_43 rfl (by decide) (nI_add _ _) rfl ?_
      refine g_goto cx 5 dX6_alikeWith_46 (by decide) ?_
      rw [show yAl Y s i w (i1 + 1) = if Y 1 (i1 * 6 + w) = Y 1 (i * 6 + w) then yAl Y s i w i1 + 1 else yAl Y s i w i1 from rfl, if_neg hw2] at ihi1
      exact ihi1
    · skip
      refine g_iinc (x := yAl Y s i w i1) (v := (yAl Y s i w i1) + 1) (lv' := [(0, .ref (yd 0)), (1, .int x), (2, .int y), (3, .int ((yAl Y s i w i1) + 1)), (4, .int (nI i1))]) cx dX6_alikeWith_40 rfl (by decide) rfl rfl ?_
      refine g_iinc (x := nI i1) (v := nI (i1 + 1)) (lv' := [(0, .ref (yd 0)), (1, .int x), (2, .int y), (3, .int ((yAl Y s i w i1) + 1)), (4, .int (nI (i1 + 1)))]) cx dX6_alikeWith_43 rfl (by decide) (nI_add _ _) rfl ?_
      refine g_goto cx 5 dX6_alikeWith_46 (by decide) ?_
      rw [show yAl Y s i w (i1 + 1) = if Y 1 (i1 * 6 + w) = Y 1 (i * 6 + w) then yAl Y s i w i1 + 1 else yAl Y s i w i1 from rfl, if_pos hw2] at ihi1
      exact ihi1
  · skip
    refine g_iload (v := nI s) cx dX6_alikeWith_5 rfl ?_
    refine g_aload_n (v := yd 0) cx dX6_alikeWith_7 rfl ?_
    refine g_get (v := .int (Y 2 0)) cx fk_X6_18 dX6_alikeWith_8 0 rfl rfl ?_
    refine g_icmp_ge cx 49 dX6_alikeWith_11 (by decide) (fun hw3 => ?_) (fun hw3 => absurd (rf_geMP rfl hs (by omega) (by omega) (by omega)) hw3)
    refine g_iload_n (v := yAl Y s i w s) cx dX6_alikeWith_49 rfl ?_
    exact hret _ _ _ _ dX6_alikeWith_50 (rfl) ⟨rfl, rfl⟩
def rm_X6_mostAlike : Room := { frames := 1, cells := 0, slots := 0, locals := 24 }
set_option maxRecDepth 100000 in
set_option maxHeartbeats 4000000 in
theorem c_X6_mostAlike (V : VT) (yd : Nat → Nat) (Y : S2) (y : Int32) (w : Nat) (hy : y = nI w) (hw : w < 6) (s : Nat) (hs : Y 2 0 = nI s) (hs7 : s ≤ 7) : CI V yX6_mostAlike cX6_mostAlike 4 .int rm_X6_mostAlike [.ref (yd 0), .int y] (wSusp V yd Y) (fun r_ w_ => r_ = yMo Y s w s ∧ w_ = wSusp V yd Y) := by
  refine CI_intro (by decide) (Nat.le_of_ble_eq_true rfl) (fun K cx hret => ?_)
  show G V K 4 0 0 (wSusp V yd Y) 0 [(0, .ref (yd 0)), (1, .int y)] []
  refine g_iconst (v := 0) cx dX6_mostAlike_0 (by decide) ?_
  refine g_istore_n (lv' := [(0, .ref (yd 0)), (1, .int y), (2, .int 0)]) cx dX6_mostAlike_1 (by decide) rfl ?_
  refine g_iconst (v := 0) cx dX6_mostAlike_2 (by decide) ?_
  refine g_istore_n (lv' := [(0, .ref (yd 0)), (1, .int y), (2, .int 0), (3, .int 0)]) cx dX6_mostAlike_3 (by decide) rfl ?_
  refine rf_dn (P := fun i1 => G V K 4 0 0 (wSusp V yd Y) 4 [(0, .ref (yd 0)), (1, .int y), (2, .int (yMo Y s w i1)), (3, .int (nI i1))] []) (s) (fun i1 hi1 ihi1 => ?_) ?_
  · skip
    refine g_iload_n (v := nI i1) cx dX6_mostAlike_4 rfl ?_
    refine g_aload_n (v := yd 0) cx dX6_mostAlike_5 rfl ?_
    refine g_get (v := .int (Y 2 0)) cx fk_X6_18 dX6_mostAlike_6 0 rfl rfl ?_
    refine g_icmp_ge cx 29 dX6_mostAlike_9 (by decide) (fun hw1 => absurd hw1 (rf_geMN rfl hs (by omega) (by omega) (by omega))) (fun hw1 => ?_)
    refine g_iload_n (v := yMo Y s w i1) cx dX6_mostAlike_12 rfl ?_
    refine g_aload_n (v := yd 0) cx dX6_mostAlike_13 rfl ?_
    refine g_iload_n (v := nI i1) cx dX6_mostAlike_14 rfl ?_
    refine g_iload_n (v := y) cx dX6_mostAlike_15 rfl ?_
    refine k_calli (r0 := yAl Y s i1 w s) (ws' := wSusp V yd Y) (As := [.int (nI i1), .int y]) (rest := [.int (yMo Y s w i1)]) cx (c_X6_alikeWith V yd Y (nI i1) y i1 w rfl hy (by omega) s hs hs7 (by omega)) ml_X6_31 dX6_mostAlike_16 [0, 1, 2] rfl rfl [yd 0, yd 1, yd 2] rfl rfl rfl 0 6 rfl rfl rfl rfl rfl (Nat.le_of_ble_eq_true rfl) ⟨Nat.le_of_ble_eq_true rfl, Nat.le_of_ble_eq_true rfl⟩ ⟨Nat.le_refl _, Nat.le_refl _⟩ ?_
    refine g_mmax cx ml_X6_35 dX6_mostAlike_19 (Nat.le_of_ble_eq_true rfl) (Nat.le_of_ble_eq_true rfl) (Nat.zero_le _) (Nat.zero_le _) ?_
    refine g_istore_n (lv' := [(0, .ref (yd 0)), (1, .int y), (2, .int (if (yMo Y s w i1) < (yAl Y s i1 w s) then yAl Y s i1 w s else yMo Y s w i1)), (3, .int (nI i1))]) cx dX6_mostAlike_22 (by decide) rfl ?_
    refine g_iinc (x := nI i1) (v := nI (i1 + 1)) (lv' := [(0, .ref (yd 0)), (1, .int y), (2, .int (if (yMo Y s w i1) < (yAl Y s i1 w s) then yAl Y s i1 w s else yMo Y s w i1)), (3, .int (nI (i1 + 1)))]) cx dX6_mostAlike_23 rfl (by decide) (nI_add _ _) rfl ?_
    refine g_goto cx 4 dX6_mostAlike_26 (by decide) ?_
    exact ihi1
  · skip
    refine g_iload_n (v := nI s) cx dX6_mostAlike_4 rfl ?_
    refine g_aload_n (v := yd 0) cx dX6_mostAlike_5 rfl ?_
    refine g_get (v := .int (Y 2 0)) cx fk_X6_18 dX6_mostAlike_6 0 rfl rfl ?_
    refine g_icmp_ge cx 29 dX6_mostAlike_9 (by decide) (fun hw2 => ?_) (fun hw2 => absurd (rf_geMP rfl hs (by omega) (by omega) (by omega)) hw2)
    refine g_iload_n (v := yMo Y s w s) cx dX6_mostAlike_29 rfl ?_
    exact hret _ _ _ _ dX6_mostAlike_30 (rfl) ⟨rfl, rfl⟩
def rm_X6_bestLook : Room := { frames := 2, cells := 0, slots := 0, locals := 47 }
set_option maxRecDepth 100000 in
set_option maxHeartbeats 4000000 in
theorem c_X6_bestLook (V : VT) (yd : Nat → Nat) (Y : S2) (s : Nat) (hs : Y 2 0 = nI s) (hs7 : s ≤ 7) : CI V yX6_bestLook cX6_bestLook 5 .int rm_X6_bestLook [.ref (yd 0)] (wSusp V yd Y) (fun r_ w_ => r_ = (yBe Y s 5).1 ∧ w_ = wSusp V yd Y) := by
  refine CI_intro (by decide) (Nat.le_of_ble_eq_true rfl) (fun K cx hret => ?_)
  show G V K 5 0 0 (wSusp V yd Y) 0 [(0, .ref (yd 0))] []
  refine g_iconst (v := 0) cx dX6_bestLook_0 (by decide) ?_
  refine g_istore_n (lv' := [(0, .ref (yd 0)), (1, .int 0)]) cx dX6_bestLook_1 (by decide) rfl ?_
  refine g_aload_n (v := yd 0) cx dX6_bestLook_2 rfl ?_
  refine g_iconst (v := 0) cx dX6_bestLook_3 (by decide) ?_
  refine k_calli (r0 := yMo Y s 0 s) (ws' := wSusp V yd Y) (As := [.int 0]) (rest := []) cx (c_X6_mostAlike V yd Y 0 0 (nl 0) (by omega) s hs hs7) ml_X6_28 dX6_bestLook_4 [0, 1, 2] rfl rfl [yd 0, yd 1, yd 2] rfl rfl rfl 0 6 rfl rfl rfl rfl rfl (Nat.le_of_ble_eq_true rfl) ⟨Nat.le_of_ble_eq_true rfl, Nat.le_of_ble_eq_true rfl⟩ ⟨Nat.le_refl _, Nat.le_refl _⟩ ?_
  refine g_istore_n (lv' := [(0, .ref (yd 0)), (1, .int 0), (2, .int (yMo Y s 0 s))]) cx dX6_bestLook_7 (by decide) rfl ?_
  refine g_iconst (v := 1) cx dX6_bestLook_8 (by decide) ?_
  refine g_istore_n (lv' := [(0, .ref (yd 0)), (1, .int 0), (2, .int (yMo Y s 0 s)), (3, .int 1)]) cx dX6_bestLook_9 (by decide) rfl ?_
  refine rf_dn (P := fun i1 => G V K 5 0 0 (wSusp V yd Y) 10 [(0, .ref (yd 0)), (1, .int ((yBe Y s i1).1)), (2, .int ((yBe Y s i1).2)), (3, .int (nI (1 + i1)))] []) (5) (fun i1 hi1 ihi1 => ?_) ?_
  · skip
    have h5 : i1 < 5 := hi1
    refine g_iload_n (v := nI (1 + i1)) cx dX6_bestLook_10 rfl ?_
    refine g_bipush (v := 6) cx dX6_bestLook_11 (by decide) ?_
    refine g_icmp_ge cx 40 dX6_bestLook_13 (by decide) (fun hw1 => absurd hw1 (rf_geMN rfl (nl 6) (by omega) (by omega) (by omega))) (fun hw1 => ?_)
    refine g_aload_n (v := yd 0) cx dX6_bestLook_16 rfl ?_
    refine g_iload_n (v := nI (1 + i1)) cx dX6_bestLook_17 rfl ?_
    refine k_calli (r0 := yMo Y s (1 + i1) s) (ws' := wSusp V yd Y) (As := [.int (nI (1 + i1))]) (rest := []) cx (c_X6_mostAlike V yd Y (nI (1 + i1)) (1 + i1) rfl (by omega) s hs hs7) ml_X6_28 dX6_bestLook_18 [0, 1, 2] rfl rfl [yd 0, yd 1, yd 2] rfl rfl rfl 0 6 rfl rfl rfl rfl rfl (Nat.le_of_ble_eq_true rfl) ⟨Nat.le_of_ble_eq_true rfl, Nat.le_of_ble_eq_true rfl⟩ ⟨Nat.le_refl _, Nat.le_refl _⟩ ?_
    refine g_istore (lv' := [(0, .ref (yd 0)), (1, .int ((yBe Y s i1).1)), (2, .int ((yBe Y s i1).2)), (3, .int (nI (1 + i1))), (4, .int (yMo Y s (1 + i1) s))]) cx dX6_bestLook_21 (by decide) rfl ?_
    refine g_iload (v := yMo Y s (1 + i1) s) cx dX6_bestLook_23 rfl ?_
    refine g_iload_n (v := (yBe Y s i1).2) cx dX6_bestLook_25 rfl ?_
    refine g_icmp_ge cx 34 dX6_bestLook_26 (by decide) (fun hw2 => ?_) (fun hw2 => ?_)
    · skip
      refine g_iinc (x := nI (1 + i1)) (v := nI ((1 + i1) + 1)) (lv' := [(0, .ref (yd 0)), (1, .int ((yBe Y s i1).1)), (2, .int ((yBe Y s i1).2)), (3, .int (nI ((1 + i1) + 1))), (4, .int (yMo Y s (1 + i1) s))]) cx dX6_bestLook_34 rfl (by decide) (nI_add _ _) rfl ?_
      refine g_goto cx 10 dX6_bestLook_37 (by decide) ?_
      refine g_lvk (lv' := [(0, .ref (yd 0)), (1, .int ((yBe Y s i1).1)), (2, .int ((yBe Y s i1).2)), (3, .int (nI ((1 + i1) + 1)))]) [0, 1, 2, 3] rfl ?_
      rw [show yBe Y s (i1 + 1) = if yMo Y s (1 + i1) s < (yBe Y s i1).2 then (nI (1 + i1), yMo Y s (1 + i1) s) else yBe Y s i1 from rfl, if_neg (Int32.not_lt.mpr hw2)] at ihi1
      exact ihi1
    · skip
      refine g_iload_n (v := nI (1 + i1)) cx dX6_bestLook_29 rfl ?_
      refine g_istore_n (lv' := [(0, .ref (yd 0)), (1, .int (nI (1 + i1))), (2, .int ((yBe Y s i1).2)), (3, .int (nI (1 + i1))), (4, .int (yMo Y s (1 + i1) s))]) cx dX6_bestLook_30 (by decide) rfl ?_
      refine g_iload (v := yMo Y s (1 + i1) s) cx dX6_bestLook_31 rfl ?_
      refine g_istore_n (lv' := [(0, .ref (yd 0)), (1, .int (nI (1 + i1))), (2, .int (yMo Y s (1 + i1) s)), (3, .int (nI (1 + i1))), (4, .int (yMo Y s (1 + i1) s))]) cx dX6_bestLook_33 (by decide) rfl ?_
      refine g_iinc (x := nI (1 + i1)) (v := nI ((1 + i1) + 1)) (lv' := [(0, .ref (yd 0)), (1, .int (nI (1 + i1))), (2, .int (yMo Y s (1 + i1) s)), (3, .int (nI ((1 + i1) + 1))), (4, .int (yMo Y s (1 + i1) s))]) cx dX6_bestLook_34 rfl (by decide) (nI_add _ _) rfl ?_
      refine g_goto cx 10 dX6_bestLook_37 (by decide) ?_
      refine g_lvk (lv' := [(0, .ref (yd 0)), (1, .int (nI (1 + i1))), (2, .int (yMo Y s (1 + i1) s)), (3, .int (nI ((1 + i1) + 1)))]) [0, 1, 2, 3] rfl ?_
      rw [show yBe Y s (i1 + 1) = if yMo Y s (1 + i1) s < (yBe Y s i1).2 then (nI (1 + i1), yMo Y s (1 + i1) s) else yBe Y s i1 from rfl, if_pos (Int32.not_le.mp hw2)] at ihi1
      exact ihi1
  · skip
    refine g_iload_n (v := nI (1 + 5)) cx dX6_bestLook_10 rfl ?_
    refine g_bipush (v := 6) cx dX6_bestLook_11 (by decide) ?_
    refine g_icmp_ge cx 40 dX6_bestLook_13 (by decide) (fun hw3 => ?_) (fun hw3 => absurd (rf_geMP rfl (nl 6) (by omega) (by omega) (by omega)) hw3)
    refine g_iload_n (v := (yBe Y s 5).1) cx dX6_bestLook_40 rfl ?_
    exact hret _ _ _ _ dX6_bestLook_41 (rfl) ⟨rfl, rfl⟩
