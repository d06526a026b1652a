abbrev jD (A B R : S2) (i : Nat) : Int32 := if R 2 (i * 5 + 0) = 114 ∧ R 2 (i * 5 + 1) = 98 then A 0 i ||| B 0 i else if B 1 i ≤ 0 then A 0 i else B 0 i
def rNo (R : S2) (n : Nat) : S2 := fl (fun i S => u2 (u2 S 3 (i * 2 + 0) 0) 3 (i * 2 + 1) (S 2 (i * 5 + 4))) n R
theorem rNo_k {R : S2} {k : Nat} (hk : k ≠ 3) (n : Nat) : rNo R n k = R k := fl_inv (σ := S2) (fun S => S k = R k) rfl (fun i S h => by rw [u2_n hk, u2_n hk]; exact h) n
def rNothing (R : S2) (o : Nat) : S2 := u1 (u2 (rNo R o) 5 5 1) 4 (rFill ((rNo R o) 4) (-9) 0 2)
def rRes (A B : S2) (R : S2) (n : Nat) : S2 := fl (fun i S => u2 (u2 S 3 (i * 2 + 0) (A 1 i + B 1 i)) 3 (i * 2 + 1) (jD A B S i)) n R
theorem rRes_k {A B R : S2} {k : Nat} (hk : k ≠ 3) (n : Nat) : rRes A B R n k = R k := fl_inv (σ := S2) (fun S => S k = R k) rfl (fun i S h => by rw [u2_n hk, u2_n hk]; exact h) n
def rAround (R : S2) (n : Nat) : S2 := u1 R 4 (rFill (R 4) (rLen R 0 (n + 1) + R 5 0) 0 2)
def rTimes (R : S2) (n m : Nat) : S2 := if ¬ R 5 4 = 0 ∧ rCuts R m = 0 then rAround R n else rTimesT R n
def snd3 (n o m : Nat) (A : S2) (t : S2 × S2 × Int32) : S2 × S2 × S2 × Int32 := (A, t.1, rTimes (u2 (rRes A t.1 t.2.1 o) 5 5 1) n m, t.2.2)
def snd2 (n o m : Nat) (B : S2) (s : S2 × S2 × Int32) : S2 × S2 × S2 × Int32 := snd3 n o m s.1 (fl (fun j t => pAll o (sB s.2.1 n + j) t) (n - sB s.2.1 n) (B, s.2.1, s.2.2))
def snd (v : Int32) (R A B : S2) (n o m : Nat) : S2 × S2 × S2 × Int32 := snd2 n o m (cStart R B o) (fl (fun d s => pAll o d s) (eA R n) (cStart R A o, R, v))
theorem pl_keep {o : Nat} {f : Nat → Nat} (n : Nat) {s : S2 × S2 × Int32} : rKeep s.2.1 (fl (fun d s => pAll o (f d) s) n s).2.1 := fl_inv (σ := S2 × S2 × Int32) (fun t => rKeep s.2.1 t.2.1) rKeep.rf (fun i t h => h.tr pAll_keep) n
theorem eA_le (R : S2) (n : Nat) : eA R n ≤ n := ff_le _ _
theorem sB_le (R : S2) (n : Nat) : sB R n ≤ n := by unfold sB; split; exact Nat.le_refl n; split <;> omega
theorem rLinks_k {R R' : S2} (h : R' 5 = R 5) : rLinks R' = rLinks R := by unfold rLinks; rw [h]
def rTick (sv : Int32) (R : S2) (n : Nat) : S2 := fl (fun d S => if (sv >>> (nI d &&& 31)) &&& 1 = 1 then u2 S 0 (d * 9 + 5) 0 else rMiss S d) n R
theorem rMz_k {R : S2} {d k : Nat} (hk : k ≠ 0) (n : Nat) : rMz R d n k = R k := fl_inv (σ := S2) (fun S => S k = R k) (by unfold rM1; rw [u2_n hk, u2_n hk]) (fun i S h => by rw [u2_n hk]; exact h) n
theorem rMiss_k {R : S2} {d k : Nat} (hk : k ≠ 0) : rMiss R d k = R k := by
  unfold rMiss
  split
  · unfold rM1; rw [u2_n hk]
  · split
    · unfold rM1; rw [u2_n hk]
    · exact rMz_k hk 4
theorem rTick_k {sv : Int32} {R : S2} {k : Nat} (hk : k ≠ 0) (n : Nat) : rTick sv R n k = R k := fl_inv (σ := S2) (fun S => S k = R k) rfl (fun i S h => by
  by_cases c : (sv >>> (nI i &&& 31)) &&& 1 = 1
  · simp only [if_pos c]; rw [u2_n hk]; exact h
  · simp only [if_neg c]; rw [rMiss_k hk]; exact h) n
theorem rTick_s (sv : Int32) (R : S2) (i : Nat) : rTick sv R (i + 1) = if (sv >>> (nI i &&& 31)) &&& 1 = 1 then u2 (rTick sv R i) 0 (i * 9 + 5) 0 else rMiss (rTick sv R i) i := rfl
def cEnd (R : S2) : S2 := u2 (u2 R 5 6 0) 5 3 (R 5 3 + 1)
/-- a cycle: copies, ring, served -/
def cyc (R A B : S2) (n o m : Nat) : S2 × S2 × S2 × Int32 := if R 5 6 = 0 then ((snd 0 R A B n o m).1, (snd 0 R A B n o m).2.1, cEnd (rTick (snd 0 R A B n o m).2.2.2 (snd 0 R A B n o m).2.2.1 n), (snd 0 R A B n o m).2.2.2) else (A, B, cEnd (rTick 0 (rNothing R o) n), 0)
def rm_X4_joinedData : Room := { frames := 1, cells := 0, slots := 0, locals := 22 }
set_option maxRecDepth 100000 in
set_option maxHeartbeats 4000000 in
theorem c_X4_joinedData (V : VT) (sa : Nat) (sv : Int32) (ca cb : Nat → Nat) (A B : S2) (ad : Nat → Nat) (R : S2) (x : Int32) (i : Nat) (hx : x = nI i) (hi : i < 4) : CI V yX4_joinedData cX4_joinedData 3 .int rm_X4_joinedData [.ref sa, .ref (ad 0), .int x] (wSd sa (ca 0) (cb 0) sv ++ wCopy V ca A ++ wCopy V cb B ++ wRing V ad R) (fun r_ w_ => r_ = jD A B R i ∧ w_ = wSd sa (ca 0) (cb 0) sv ++ wCopy V ca A ++ wCopy V cb B ++ wRing V ad R) := by
  refine CI_intro (by decide) (Nat.le_of_ble_eq_true rfl) (fun K cx hret => ?_)
  show G V K 3 0 0 (wSd sa (ca 0) (cb 0) sv ++ wCopy V ca A ++ wCopy V cb B ++ wRing V ad R) 0 [(0, .ref sa), (1, .ref (ad 0)), (2, .int x)] []
  refine g_aload_n (v := ad 0) cx dX4_joinedData_0 rfl ?_
  refine g_iload_n (v := x) cx dX4_joinedData_1 rfl ?_
  refine g_iconst (v := 0) cx dX4_joinedData_2 (by decide) ?_
  refine k_calli (r0 := R 2 (i * 5 + 0)) (ws' := wSd sa (ca 0) (cb 0) sv ++ wCopy V ca A ++ wCopy V cb B ++ wRing V ad R) (As := [.int x, .int 0]) (rest := []) cx (c_X3_ofOrder V ad R x 0 (i * 5 + 0) (rf_add (rf_mul hx rfl) (nl 0)) (by omega)) ml_X4_55 dX4_joinedData_3 [9, 10, 11, 12, 13, 14] rfl rfl [ad 0, ad 1, ad 2, ad 3, ad 4, ad 5] rfl rfl rfl 0 3 rfl rfl rfl rfl rfl (Nat.le_of_ble_eq_true rfl) ⟨Nat.le_of_ble_eq_true rfl, Nat.le_of_ble_eq_true rfl⟩ ⟨Nat.le_refl _, Nat.le_refl _⟩ ?_
  refine g_bipush (v := 114) cx dX4_joinedData_6 (by decide) ?_
  refine g_icmp_ne cx 42 dX4_joinedData_8 (by decide) (fun hw1 => ?_) (fun hw1 => ?_)
  · skip
    refine g_aload_n (v := sa) cx dX4_joinedData_42 rfl ?_
    refine g_get (v := .ref (cb 0)) cx fk_X4_18 dX4_joinedData_43 0 rfl rfl ?_
    refine g_get (v := .ref (cb 2)) cx fk_X4_89 dX4_joinedData_46 5 rfl rfl ?_
    refine g_iload_n (v := x) cx dX4_joinedData_49 rfl ?_
    refine g_iald cx dX4_joinedData_50 7 i rfl (hx) (by omega) (by first | decide | omega) ?_
    refine g_if_le cx 66 dX4_joinedData_51 (by decide) (fun hw2 => ?_) (fun hw2 => ?_)
    · skip
      refine g_aload_n (v := sa) cx dX4_joinedData_66 rfl ?_
      refine g_get (v := .ref (ca 0)) cx fk_X4_12 dX4_joinedData_67 0 rfl rfl ?_
      refine g_get (v := .ref (ca 1)) cx fk_X4_114 dX4_joinedData_70 1 rfl rfl ?_
      refine g_iload_n (v := x) cx dX4_joinedData_73 rfl ?_
      refine g_iald cx dX4_joinedData_74 2 i rfl (hx) (by omega) (by first | decide | omega) ?_
      exact hret _ _ _ _ dX4_joinedData_75 (rfl) (⟨by rw [jD, if_neg (fun h => hw1 h.1), if_pos hw2], rfl⟩)
    · skip
      refine g_aload_n (v := sa) cx dX4_joinedData_54 rfl ?_
      refine g_get (v := .ref (cb 0)) cx fk_X4_18 dX4_joinedData_55 0 rfl rfl ?_
      refine g_get (v := .ref (cb 1)) cx fk_X4_114 dX4_joinedData_58 5 rfl rfl ?_
      refine g_iload_n (v := x) cx dX4_joinedData_61 rfl ?_
      refine g_iald cx dX4_joinedData_62 6 i rfl (hx) (by omega) (by first | decide | omega) ?_
      refine g_goto cx 75 dX4_joinedData_63 (by decide) ?_
      exact hret _ _ _ _ dX4_joinedData_75 (rfl) (⟨by rw [jD, if_neg (fun h => hw1 h.1), if_neg hw2], rfl⟩)
  · skip
    refine g_aload_n (v := ad 0) cx dX4_joinedData_11 rfl ?_
    refine g_iload_n (v := x) cx dX4_joinedData_12 rfl ?_
    refine g_iconst (v := 1) cx dX4_joinedData_13 (by decide) ?_
    refine k_calli (r0 := R 2 (i * 5 + 1)) (ws' := wSd sa (ca 0) (cb 0) sv ++ wCopy V ca A ++ wCopy V cb B ++ wRing V ad R) (As := [.int x, .int 1]) (rest := []) cx (c_X3_ofOrder V ad R x 1 (i * 5 + 1) (rf_add (rf_mul hx rfl) (nl 1)) (by omega)) ml_X4_55 dX4_joinedData_14 [9, 10, 11, 12, 13, 14] rfl rfl [ad 0, ad 1, ad 2, ad 3, ad 4, ad 5] rfl rfl rfl 0 3 rfl rfl rfl rfl rfl (Nat.le_of_ble_eq_true rfl) ⟨Nat.le_of_ble_eq_true rfl, Nat.le_of_ble_eq_true rfl⟩ ⟨Nat.le_refl _, Nat.le_refl _⟩ ?_
    refine g_bipush (v := 98) cx dX4_joinedData_17 (by decide) ?_
    refine g_icmp_ne cx 42 dX4_joinedData_19 (by decide) (fun hw3 => ?_) (fun hw3 => ?_)
    · skip
      refine g_aload_n (v := sa) cx dX4_joinedData_42 rfl ?_
      refine g_get (v := .ref (cb 0)) cx fk_X4_18 dX4_joinedData_43 0 rfl rfl ?_
      refine g_get (v := .ref (cb 2)) cx fk_X4_89 dX4_joinedData_46 5 rfl rfl ?_
      refine g_iload_n (v := x) cx dX4_joinedData_49 rfl ?_
      refine g_iald cx dX4_joinedData_50 7 i rfl (hx) (by omega) (by first | decide | omega) ?_
      refine g_if_le cx 66 dX4_joinedData_51 (by decide) (fun hw4 => ?_) (fun hw4 => ?_)
      · skip
        refine g_aload_n (v := sa) cx dX4_joinedData_66 rfl ?_
        refine g_get (v := .ref (ca 0)) cx fk_X4_12 dX4_joinedData_67 0 rfl rfl ?_
        refine g_get (v := .ref (ca 1)) cx fk_X4_114 dX4_joinedData_70 1 rfl rfl ?_
        refine g_iload_n (v := x) cx dX4_joinedData_73 rfl ?_
        refine g_iald cx dX4_joinedData_74 2 i rfl (hx) (by omega) (by first | decide | omega) ?_
        exact hret _ _ _ _ dX4_joinedData_75 (rfl) (⟨by rw [jD, if_neg (fun h => hw3 h.2), if_pos hw4], rfl⟩)
      · skip
        refine g_aload_n (v := sa) cx dX4_joinedData_54 rfl ?_
        refine g_get (v := .ref (cb 0)) cx fk_X4_18 dX4_joinedData_55 0 rfl rfl ?_
        refine g_get (v := .ref (cb 1)) cx fk_X4_114 dX4_joinedData_58 5 rfl rfl ?_
        refine g_iload_n (v := x) cx dX4_joinedData_61 rfl ?_
        refine g_iald cx dX4_joinedData_62 6 i rfl (hx) (by omega) (by first | decide | omega) ?_
        refine g_goto cx 75 dX4_joinedData_63 (by decide) ?_
        exact hret _ _ _ _ dX4_joinedData_75 (rfl) (⟨by rw [jD, if_neg (fun h => hw3 h.2), if_neg hw4], rfl⟩)
    · skip
      refine g_aload_n (v := sa) cx dX4_joinedData_22 rfl ?_
      refine g_get (v := .ref (ca 0)) cx fk_X4_12 dX4_joinedData_23 0 rfl rfl ?_
      refine g_get (v := .ref (ca 1)) cx fk_X4_114 dX4_joinedData_26 1 rfl rfl ?_
      refine g_iload_n (v := x) cx dX4_joinedData_29 rfl ?_
      refine g_iald cx dX4_joinedData_30 2 i rfl (hx) (by omega) (by first | decide | omega) ?_
      refine g_aload_n (v := sa) cx dX4_joinedData_31 rfl ?_
      refine g_get (v := .ref (cb 0)) cx fk_X4_18 dX4_joinedData_32 0 rfl rfl ?_
      refine g_get (v := .ref (cb 1)) cx fk_X4_114 dX4_joinedData_35 5 rfl rfl ?_
      refine g_iload_n (v := x) cx dX4_joinedData_38 rfl ?_
      refine g_iald cx dX4_joinedData_39 6 i rfl (hx) (by omega) (by first | decide | omega) ?_
      refine g_ior cx dX4_joinedData_40 ?_
      exact hret _ _ _ _ dX4_joinedData_41 (rfl) (⟨by rw [jD, if_pos ⟨hw1, hw3⟩], rfl⟩)
def rm_X4_sendNothing : Room := { frames := 1, cells := 0, slots := 0, locals := 23 }
set_option maxRecDepth 100000 in
set_option maxHeartbeats 4000000 in
theorem c_X4_sendNothing (V : VT) (sa : Nat) (sv : Int32) (ca cb : Nat → Nat) (A B : S2) (ad : Nat → Nat) (R : S2) (o : Nat) (ho : R 5 1 = nI o) (ho4 : o ≤ 4) : CV V yX4_sendNothing cX4_sendNothing 3 rm_X4_sendNothing [.ref sa, .ref (ad 0)] (wSd sa (ca 0) (cb 0) sv ++ wRing V ad R) (fun w_ => w_ = wSd sa (ca 0) (cb 0) sv ++ wRing V ad (rNothing R o)) := by
  refine CV_intro (by decide) (Nat.le_of_ble_eq_true rfl) (fun K cx hci hret => ?_)
  show G V K 3 0 0 (wSd sa (ca 0) (cb 0) sv ++ wRing V ad R) 0 [(0, .ref sa), (1, .ref (ad 0))] []
  refine g_iconst (v := 0) cx dX4_sendNothing_0 (by decide) ?_
  refine g_istore_n (lv' := [(0, .ref sa), (1, .ref (ad 0)), (2, .int 0)]) cx dX4_sendNothing_1 (by decide) rfl ?_
  refine rf_dn (P := fun i1 => G V K 3 0 0 (wSd sa (ca 0) (cb 0) sv ++ wRing V ad (rNo R i1)) 2 [(0, .ref sa), (1, .ref (ad 0)), (2, .int (nI i1))] []) (o) (fun i1 hi1 ihi1 => ?_) ?_
  · skip
    refine g_iload_n (v := nI i1) cx dX4_sendNothing_2 rfl ?_
    refine g_aload_n (v := ad 0) cx dX4_sendNothing_3 rfl ?_
    refine g_get (v := .int ((rNo R i1) 5 1)) cx fk_X4_52 dX4_sendNothing_4 1 rfl rfl ?_
    refine g_icmp_ge cx 28 dX4_sendNothing_7 (by decide) (fun hw1 => absurd hw1 (rf_geMN rfl ((congrFun (rNo_k (by decide) _) 1).trans ho) (by omega) (by omega) (by omega))) (fun hw1 => ?_)
    refine g_aload_n (v := ad 0) cx dX4_sendNothing_10 rfl ?_
    refine g_iload_n (v := nI i1) cx dX4_sendNothing_11 rfl ?_
    refine g_iconst (v := 0) cx dX4_sendNothing_12 (by decide) ?_
    refine g_aload_n (v := ad 0) cx dX4_sendNothing_13 rfl ?_
    refine g_iload_n (v := nI i1) cx dX4_sendNothing_14 rfl ?_
    refine g_iconst (v := 4) cx dX4_sendNothing_15 (by decide) ?_
    refine k_calli (r0 := (rNo R i1) 2 (i1 * 5 + 4)) (ws' := wSd sa (ca 0) (cb 0) sv ++ wRing V ad (rNo R i1)) (As := [.int (nI i1), .int 4]) (rest := [.int 0, .int (nI i1), .ref (ad 0)]) cx (c_X3_ofOrder V ad (rNo R i1) (nI i1) 4 (i1 * 5 + 4) (rf_add (rf_mul rfl rfl) (nl 4)) (by omega)) ml_X4_55 dX4_sendNothing_16 [1, 2, 3, 4, 5, 6] rfl rfl [ad 0, ad 1, ad 2, ad 3, ad 4, ad 5] rfl rfl rfl 0 3 rfl rfl rfl rfl rfl (Nat.le_of_ble_eq_true rfl) ⟨Nat.le_of_ble_eq_true rfl, Nat.le_of_ble_eq_true rfl⟩ ⟨Nat.le_refl _, Nat.le_refl _⟩ ?_
    refine k_callv (ws' := wSd sa (ca 0) (cb 0) sv ++ wRing V ad (u2 (u2 (rNo R i1) 3 (i1 * 2 + 0) 0) 3 (i1 * 2 + 1) ((rNo R i1) 2 (i1 * 5 + 4)))) (As := [.int (nI i1), .int 0, .int ((rNo R i1) 2 (i1 * 5 + 4))]) (rest := []) cx (c_X3_putResult V ad (rNo R i1) (nI i1) 0 ((rNo R i1) 2 (i1 * 5 + 4)) i1 rfl (by omega)) ml_X4_59 dX4_sendNothing_19 [1, 2, 3, 4, 5, 6] rfl rfl [ad 0, ad 1, ad 2, ad 3, ad 4, ad 5] rfl rfl rfl 0 3 rfl rfl rfl rfl rfl (Nat.le_of_ble_eq_true rfl) ⟨Nat.le_of_ble_eq_true rfl, Nat.le_of_ble_eq_true rfl⟩ ⟨Nat.le_refl _, Nat.le_refl _⟩ ?_
    refine g_iinc (x := nI i1) (v := nI (i1 + 1)) (lv' := [(0, .ref sa), (1, .ref (ad 0)), (2, .int (nI (i1 + 1)))]) cx dX4_sendNothing_22 rfl (by decide) (nI_add _ _) rfl ?_
    refine g_goto cx 2 dX4_sendNothing_25 (by decide) ?_
    exact ihi1
  · skip
    refine g_iload_n (v := nI o) cx dX4_sendNothing_2 rfl ?_
    refine g_aload_n (v := ad 0) cx dX4_sendNothing_3 rfl ?_
    refine g_get (v := .int ((rNo R o) 5 1)) cx fk_X4_52 dX4_sendNothing_4 1 rfl rfl ?_
    refine g_icmp_ge cx 28 dX4_sendNothing_7 (by decide) (fun hw2 => ?_) (fun hw2 => absurd (rf_geMP rfl ((congrFun (rNo_k (by decide) _) 1).trans ho) (by omega) (by omega) (by omega)) hw2)
    refine g_aload_n (v := ad 0) cx dX4_sendNothing_28 rfl ?_
    refine g_iconst (v := 1) cx dX4_sendNothing_29 (by decide) ?_
    refine g_put (ws' := wSd sa (ca 0) (cb 0) sv ++ wRing V ad (u2 (rNo R o) 5 5 1)) cx fk_X4_62 dX4_sendNothing_30 1 rfl (rfl) (rfl) (Nat.le_of_ble_eq_true rfl) rfl ?_
    refine g_aload_n (v := ad 0) cx dX4_sendNothing_33 rfl ?_
    refine g_get (v := .ref (ad 5)) cx fk_X4_65 dX4_sendNothing_34 1 rfl rfl ?_
    refine g_bipush (v := (-9)) cx dX4_sendNothing_37 (by decide) ?_
    refine k_callsv (ws' := wSd sa (ca 0) (cb 0) sv ++ wRing V ad (u1 (u2 (rNo R o) 5 5 1) 4 (rFill ((rNo R o) 4) (-9) 0 2))) (As := [.ref (ad 5), .int (-9)]) (rest := []) cx (c_J7_fill_53178 V (ad 5) 2 ((rNo R o) 4) (-9) (by decide)) ml_X4_69 dX4_sendNothing_39 [6] rfl rfl [ad 5] rfl rfl rfl rfl rfl (Nat.le_of_ble_eq_true rfl) ⟨Nat.le_of_ble_eq_true rfl, Nat.le_of_ble_eq_true rfl⟩ ⟨Nat.le_refl _, Nat.le_refl _⟩ ?_
    exact hret _ _ _ dX4_sendNothing_42 (rfl)
def rm_X4_send : Room := { frames := 3, cells := 0, slots := 0, locals := 74 }
set_option maxRecDepth 100000 in
set_option maxHeartbeats 4000000 in
theorem c_X4_send (V : VT) (sa : Nat) (sv : Int32) (ca cb : Nat → Nat) (A B : S2) (ad : Nat → Nat) (R : S2) (n : Nat) (hn : R 5 0 = nI n) (hn6 : n ≤ 6) (o : Nat) (ho : R 5 1 = nI o) (ho4 : o ≤ 4) (m : Nat) (hm : rLinks R = nI m) (hm7 : m ≤ 7) (hat : okAt R o) : CV V yX4_send cX4_send 4 rm_X4_send [.ref sa, .ref (ad 0)] (wSd sa (ca 0) (cb 0) sv ++ wCopy V ca A ++ wCopy V cb B ++ wRing V ad R) (fun w_ => w_ = wSd sa (ca 0) (cb 0) ((snd sv R A B n o m).2.2.2) ++ wCopy V ca ((snd sv R A B n o m).1) ++ wCopy V cb ((snd sv R A B n o m).2.1) ++ wRing V ad ((snd sv R A B n o m).2.2.1)) := by
  refine CV_intro (by decide) (Nat.le_of_ble_eq_true rfl) (fun K cx hci hret => ?_)
  show G V K 4 0 0 (wSd sa (ca 0) (cb 0) sv ++ wCopy V ca A ++ wCopy V cb B ++ wRing V ad R) 0 [(0, .ref sa), (1, .ref (ad 0))] []
  generalize hRf : snd sv R A B n o m = Rf at hret
  have hRf : snd2 n o m (cStart R B o) (fl (fun d s => pAll o d s) (eA R n) (cStart R A o, R, sv)) = Rf := hRf
  have hea := eA_le R n
  have hat1 := hat
  refine g_aload_n (v := sa) cx dX4_send_0 rfl ?_
  refine g_get (v := .ref (ca 0)) cx fk_X4_12 dX4_send_1 0 rfl rfl ?_
  refine g_aload_n (v := ad 0) cx dX4_send_4 rfl ?_
  refine k_callv (ws' := wSd sa (ca 0) (cb 0) sv ++ wCopy V ca (cStart R A o) ++ wCopy V cb B ++ wRing V ad R) (As := [.ref (ad 0)]) (rest := []) cx (c_X0_start V ca A ad R o ho (by omega)) ml_X4_75 dX4_send_5 [1, 2, 3, 4, 9, 10, 11, 12, 13, 14] rfl rfl [ca 0, ca 1, ca 2, ca 3, ad 0, ad 1, ad 2, ad 3, ad 4, ad 5] rfl rfl rfl 0 0 rfl rfl rfl rfl rfl (Nat.le_of_ble_eq_true rfl) ⟨Nat.le_of_ble_eq_true rfl, Nat.le_of_ble_eq_true rfl⟩ ⟨Nat.le_refl _, Nat.le_refl _⟩ ?_
  refine g_aload_n (v := sa) cx dX4_send_8 rfl ?_
  refine g_get (v := .ref (cb 0)) cx fk_X4_18 dX4_send_9 0 rfl rfl ?_
  refine g_aload_n (v := ad 0) cx dX4_send_12 rfl ?_
  refine k_callv (ws' := wSd sa (ca 0) (cb 0) sv ++ wCopy V ca (cStart R A o) ++ wCopy V cb (cStart R B o) ++ wRing V ad R) (As := [.ref (ad 0)]) (rest := []) cx (c_X0_start V cb B ad R o ho (by omega)) ml_X4_75 dX4_send_13 [5, 6, 7, 8, 9, 10, 11, 12, 13, 14] rfl rfl [cb 0, cb 1, cb 2, cb 3, ad 0, ad 1, ad 2, ad 3, ad 4, ad 5] rfl rfl rfl 0 0 rfl rfl rfl rfl rfl (Nat.le_of_ble_eq_true rfl) ⟨Nat.le_of_ble_eq_true rfl, Nat.le_of_ble_eq_true rfl⟩ ⟨Nat.le_refl _, Nat.le_refl _⟩ ?_
  generalize cStart R A o = A0 at hRf ⊢
  generalize cStart R B o = B0 at hRf ⊢
  refine g_aload_n (v := ad 0) cx dX4_send_16 rfl ?_
  refine k_calli (r0 := nI (eA R n)) (ws' := wSd sa (ca 0) (cb 0) sv ++ wCopy V ca A0 ++ wCopy V cb B0 ++ wRing V ad R) (As := []) (rest := []) cx (c_X3_endOfA V ad R n hn (by omega)) ml_X4_78 dX4_send_17 [9, 10, 11, 12, 13, 14] rfl rfl [ad 0, ad 1, ad 2, ad 3, ad 4, ad 5] rfl rfl rfl 0 3 rfl rfl rfl rfl rfl (Nat.le_of_ble_eq_true rfl) ⟨Nat.le_of_ble_eq_true rfl, Nat.le_of_ble_eq_true rfl⟩ ⟨Nat.le_refl _, Nat.le_refl _⟩ ?_
  refine g_istore_n (lv' := [(0, .ref sa), (1, .ref (ad 0)), (2, .int (nI (eA R n)))]) cx dX4_send_20 (by decide) rfl ?_
  refine g_iconst (v := 0) cx dX4_send_21 (by decide) ?_
  refine g_istore_n (lv' := [(0, .ref sa), (1, .ref (ad 0)), (2, .int (nI (eA R n))), (3, .int 0)]) cx dX4_send_22 (by decide) rfl ?_
  refine rf_dn (P := fun i1 => G V K 4 0 0 (wSd sa (ca 0) (cb 0) ((fl (fun d s => pAll o d s) i1 (A0, R, sv)).2.2) ++ wCopy V ca ((fl (fun d s => pAll o d s) i1 (A0, R, sv)).1) ++ wCopy V cb B0 ++ wRing V ad ((fl (fun d s => pAll o d s) i1 (A0, R, sv)).2.1)) 23 [(0, .ref sa), (1, .ref (ad 0)), (2, .int (nI (eA R n))), (3, .int (nI i1))] []) (eA R n) (fun i1 hi1 ihi1 => ?_) ?_
  · skip
    have e1 : fl (fun d s => pAll o d s) (i1 + 1) (A0, R, sv) = pAll o i1 (fl (fun d s => pAll o d s) i1 (A0, R, sv)) := rfl
    rw [e1] at ihi1
    have hk := pl_keep (o := o) (f := fun d => d) i1 (s := (A0, R, sv))
    clear e1
    generalize fl (fun d s => pAll o d s) i1 (A0, R, sv) = s at ihi1 hk ⊢
    obtain ⟨A1, R1, v1⟩ := s
    have hk : rKeep R R1 := hk
    have ho1 : R1 5 1 = nI o := by rw [hk 5 (by decide)]; exact ho
    have hat1 := hat.keep hk
    refine g_iload_n (v := nI i1) cx dX4_send_23 rfl ?_
    refine g_iload_n (v := nI (eA R n)) cx dX4_send_24 rfl ?_
    refine g_icmp_ge cx 44 dX4_send_25 (by decide) (fun hw1 => absurd hw1 (rf_geMN rfl rfl (by omega) (by omega) (by omega))) (fun hw1 => ?_)
    refine g_aload_n (v := sa) cx dX4_send_28 rfl ?_
    refine g_aload_n (v := ad 0) cx dX4_send_29 rfl ?_
    refine g_iload_n (v := nI i1) cx dX4_send_30 rfl ?_
    refine g_aload_n (v := sa) cx dX4_send_31 rfl ?_
    refine g_get (v := .ref (ca 0)) cx fk_X4_12 dX4_send_32 0 rfl rfl ?_
    refine k_callv (ws' := wSd sa (ca 0) (cb 0) ((pAll o i1 (A1, R1, v1)).2.2) ++ wCopy V ca ((pAll o i1 (A1, R1, v1)).1) ++ wCopy V cb B0 ++ wRing V ad ((pAll o i1 (A1, R1, v1)).2.1)) (As := [.ref (ad 0), .int (nI i1), .ref (ca 0)]) (rest := []) cx (c_X4_pass V sa (ca 0) (cb 0) v1 ca A1 ad R1 (nI i1) i1 rfl (by omega) o ho1 (by omega) hat1) ml_X4_82 dX4_send_35 [0, 1, 2, 3, 4, 9, 10, 11, 12, 13, 14] rfl rfl [sa, ca 0, ca 1, ca 2, ca 3, ad 0, ad 1, ad 2, ad 3, ad 4, ad 5] rfl rfl rfl 0 4 rfl rfl rfl rfl rfl (Nat.le_of_ble_eq_true rfl) ⟨Nat.le_of_ble_eq_true rfl, Nat.le_of_ble_eq_true rfl⟩ ⟨Nat.le_refl _, Nat.le_refl _⟩ ?_
    refine g_iinc (x := nI i1) (v := nI (i1 + 1)) (lv' := [(0, .ref sa), (1, .ref (ad 0)), (2, .int (nI (eA R n))), (3, .int (nI (i1 + 1)))]) cx dX4_send_38 rfl (by decide) (nI_add _ _) rfl ?_
    refine g_goto cx 23 dX4_send_41 (by decide) ?_
    exact ihi1
  · skip
    have hk1 := pl_keep (o := o) (f := fun d => d) (eA R n) (s := (A0, R, sv))
    generalize fl (fun d s => pAll o d s) (eA R n) (A0, R, sv) = s1 at hRf hk1 ⊢
    obtain ⟨A1, R1, v1⟩ := s1
    have hk1 : rKeep R R1 := hk1
    have hn1 : R1 5 0 = nI n := by rw [hk1 5 (by decide)]; exact hn
    have ho1 : R1 5 1 = nI o := by rw [hk1 5 (by decide)]; exact ho
    have hat1 := hat.keep hk1
    have hsb := sB_le R1 n
    refine g_iload_n (v := nI (eA R n)) cx dX4_send_23 rfl ?_
    refine g_iload_n (v := nI (eA R n)) cx dX4_send_24 rfl ?_
    refine g_icmp_ge cx 44 dX4_send_25 (by decide) (fun hw2 => ?_) (fun hw2 => absurd (rf_geMP rfl rfl (by omega) (by omega) (by omega)) hw2)
    refine g_aload_n (v := ad 0) cx dX4_send_44 rfl ?_
    refine k_calli (r0 := nI (sB R1 n)) (ws' := wSd sa (ca 0) (cb 0) v1 ++ wCopy V ca A1 ++ wCopy V cb B0 ++ wRing V ad R1) (As := []) (rest := []) cx (c_X3_startOfB V ad R1 n hn1 (by omega)) ml_X4_86 dX4_send_45 [9, 10, 11, 12, 13, 14] rfl rfl [ad 0, ad 1, ad 2, ad 3, ad 4, ad 5] rfl rfl rfl 0 3 rfl rfl rfl rfl rfl (Nat.le_of_ble_eq_true rfl) ⟨Nat.le_of_ble_eq_true rfl, Nat.le_of_ble_eq_true rfl⟩ ⟨Nat.le_refl _, Nat.le_refl _⟩ ?_
    refine g_istore_n (lv' := [(0, .ref sa), (1, .ref (ad 0)), (2, .int (nI (eA R n))), (3, .int (nI (sB R1 n)))]) cx dX4_send_48 (by decide) rfl ?_
    refine rf_dn (P := fun i2 => G V K 4 0 0 (wSd sa (ca 0) (cb 0) ((fl (fun j t => pAll o (sB R1 n + j) t) i2 (B0, R1, v1)).2.2) ++ wCopy V ca A1 ++ wCopy V cb ((fl (fun j t => pAll o (sB R1 n + j) t) i2 (B0, R1, v1)).1) ++ wRing V ad ((fl (fun j t => pAll o (sB R1 n + j) t) i2 (B0, R1, v1)).2.1)) 49 [(0, .ref sa), (1, .ref (ad 0)), (2, .int (nI (eA R n))), (3, .int (nI (sB R1 n + i2)))] []) (n - sB R1 n) (fun i2 hi2 ihi2 => ?_) ?_
    · skip
      have e1 : fl (fun j t => pAll o (sB R1 n + j) t) (i2 + 1) (B0, R1, v1) = pAll o (sB R1 n + i2) (fl (fun j t => pAll o (sB R1 n + j) t) i2 (B0, R1, v1)) := rfl
      rw [e1] at ihi2
      have hk := pl_keep (o := o) (f := fun j => sB R1 n + j) i2 (s := (B0, R1, v1))
      clear e1
      generalize fl (fun j t => pAll o (sB R1 n + j) t) i2 (B0, R1, v1) = s at ihi2 hk ⊢
      obtain ⟨B2, R2, v2⟩ := s
      have hk : rKeep R1 R2 := hk
      have ho2 : R2 5 1 = nI o := by rw [hk 5 (by decide)]; exact ho1
      have hn2 : R2 5 0 = nI n := by rw [hk 5 (by decide)]; exact hn1
      have hat1 := hat1.keep hk
      refine g_iload_n (v := nI (sB R1 n + i2)) cx dX4_send_49 rfl ?_
      refine g_aload_n (v := ad 0) cx dX4_send_50 rfl ?_
      refine g_get (v := .int (R2 5 0)) cx fk_X4_38 dX4_send_51 9 rfl rfl ?_
      refine g_icmp_ge cx 73 dX4_send_54 (by decide) (fun hw3 => absurd hw3 (rf_geMN rfl hn2 (by omega) (by omega) (by omega))) (fun hw3 => ?_)
      refine g_aload_n (v := sa) cx dX4_send_57 rfl ?_
      refine g_aload_n (v := ad 0) cx dX4_send_58 rfl ?_
      refine g_iload_n (v := nI (sB R1 n + i2)) cx dX4_send_59 rfl ?_
      refine g_aload_n (v := sa) cx dX4_send_60 rfl ?_
      refine g_get (v := .ref (cb 0)) cx fk_X4_18 dX4_send_61 0 rfl rfl ?_
      refine k_callv (ws' := wSd sa (ca 0) (cb 0) ((pAll o (sB R1 n + i2) (B2, R2, v2)).2.2) ++ wCopy V ca A1 ++ wCopy V cb ((pAll o (sB R1 n + i2) (B2, R2, v2)).1) ++ wRing V ad ((pAll o (sB R1 n + i2) (B2, R2, v2)).2.1)) (As := [.ref (ad 0), .int (nI (sB R1 n + i2)), .ref (cb 0)]) (rest := []) cx (c_X4_pass V sa (ca 0) (cb 0) v2 cb B2 ad R2 (nI (sB R1 n + i2)) (sB R1 n + i2) rfl (by omega) o ho2 (by omega) hat1) ml_X4_82 dX4_send_64 [0, 5, 6, 7, 8, 9, 10, 11, 12, 13, 14] rfl rfl [sa, cb 0, cb 1, cb 2, cb 3, ad 0, ad 1, ad 2, ad 3, ad 4, ad 5] rfl rfl rfl 0 4 rfl rfl rfl rfl rfl (Nat.le_of_ble_eq_true rfl) ⟨Nat.le_of_ble_eq_true rfl, Nat.le_of_ble_eq_true rfl⟩ ⟨Nat.le_refl _, Nat.le_refl _⟩ ?_
      refine g_iinc (x := nI (sB R1 n + i2)) (v := nI ((sB R1 n + i2) + 1)) (lv' := [(0, .ref sa), (1, .ref (ad 0)), (2, .int (nI (eA R n))), (3, .int (nI ((sB R1 n + i2) + 1)))]) cx dX4_send_67 rfl (by decide) (nI_add _ _) rfl ?_
      refine g_goto cx 49 dX4_send_70 (by decide) ?_
      exact ihi2
    · skip
      have hk2 := pl_keep (o := o) (f := fun j => sB R1 n + j) (n - sB R1 n) (s := (B0, R1, v1))
      have hRf : snd3 n o m A1 (fl (fun j t => pAll o (sB R1 n + j) t) (n - sB R1 n) (B0, R1, v1)) = Rf := hRf
      generalize fl (fun j t => pAll o (sB R1 n + j) t) (n - sB R1 n) (B0, R1, v1) = s2 at hRf hk2 ⊢
      obtain ⟨B2, R2, v2⟩ := s2
      have hk2 : rKeep R1 R2 := hk2
      have hn2 : R2 5 0 = nI n := by rw [hk2 5 (by decide)]; exact hn1
      have ho2 : R2 5 1 = nI o := by rw [hk2 5 (by decide)]; exact ho1
      have hm2 : rLinks R2 = nI m := by rw [rLinks_k (hk2 5 (by decide)), rLinks_k (hk1 5 (by decide))]; exact hm
      refine g_iload_n (v := nI (sB R1 n + (n - sB R1 n))) cx dX4_send_49 rfl ?_
      refine g_aload_n (v := ad 0) cx dX4_send_50 rfl ?_
      refine g_get (v := .int (R2 5 0)) cx fk_X4_38 dX4_send_51 9 rfl rfl ?_
      refine g_icmp_ge cx 73 dX4_send_54 (by decide) (fun hw4 => ?_) (fun hw4 => absurd (rf_geMP rfl hn2 (by omega) (by omega) (by omega)) hw4)
      refine g_iconst (v := 0) cx dX4_send_73 (by decide) ?_
      refine g_istore_n (lv' := [(0, .ref sa), (1, .ref (ad 0)), (2, .int (nI (eA R n))), (3, .int 0)]) cx dX4_send_74 (by decide) rfl ?_
      refine rf_dn (P := fun i3 => G V K 4 0 0 (wSd sa (ca 0) (cb 0) v2 ++ wCopy V ca A1 ++ wCopy V cb B2 ++ wRing V ad (rRes A1 B2 R2 i3)) 75 [(0, .ref sa), (1, .ref (ad 0)), (2, .int (nI (eA R n))), (3, .int (nI i3))] []) (o) (fun i3 hi3 ihi3 => ?_) ?_
      · skip
        refine g_iload_n (v := nI i3) cx dX4_send_75 rfl ?_
        refine g_aload_n (v := ad 0) cx dX4_send_76 rfl ?_
        refine g_get (v := .int ((rRes A1 B2 R2 i3) 5 1)) cx fk_X4_52 dX4_send_77 9 rfl rfl ?_
        refine g_icmp_ge cx 119 dX4_send_80 (by decide) (fun hw5 => absurd hw5 (rf_geMN rfl ((congrFun (rRes_k (by decide) _) 1).trans ho2) (by omega) (by omega) (by omega))) (fun hw5 => ?_)
        refine g_aload_n (v := ad 0) cx dX4_send_83 rfl ?_
        refine g_iload_n (v := nI i3) cx dX4_send_84 rfl ?_
        refine g_aload_n (v := sa) cx dX4_send_85 rfl ?_
        refine g_get (v := .ref (ca 0)) cx fk_X4_12 dX4_send_86 0 rfl rfl ?_
        refine g_get (v := .ref (ca 2)) cx fk_X4_89 dX4_send_89 1 rfl rfl ?_
        refine g_iload_n (v := nI i3) cx dX4_send_92 rfl ?_
        refine g_iald cx dX4_send_93 3 i3 rfl (rfl) (by omega) (by first | decide | omega) ?_
        refine g_aload_n (v := sa) cx dX4_send_94 rfl ?_
        refine g_get (v := .ref (cb 0)) cx fk_X4_18 dX4_send_95 0 rfl rfl ?_
        refine g_get (v := .ref (cb 2)) cx fk_X4_89 dX4_send_98 5 rfl rfl ?_
        refine g_iload_n (v := nI i3) cx dX4_send_101 rfl ?_
        refine g_iald cx dX4_send_102 7 i3 rfl (rfl) (by omega) (by first | decide | omega) ?_
        refine g_iadd cx dX4_send_103 ?_
        refine g_aload_n (v := sa) cx dX4_send_104 rfl ?_
        refine g_aload_n (v := ad 0) cx dX4_send_105 rfl ?_
        refine g_iload_n (v := nI i3) cx dX4_send_106 rfl ?_
        refine k_calli (r0 := jD A1 B2 (rRes A1 B2 R2 i3) i3) (ws' := wSd sa (ca 0) (cb 0) v2 ++ wCopy V ca A1 ++ wCopy V cb B2 ++ wRing V ad (rRes A1 B2 R2 i3)) (As := [.ref (ad 0), .int (nI i3)]) (rest := [.int ((A1 1 i3) + (B2 1 i3)), .int (nI i3), .ref (ad 0)]) cx (c_X4_joinedData V sa v2 ca cb A1 B2 ad (rRes A1 B2 R2 i3) (nI i3) i3 rfl (by omega)) ml_X4_92 dX4_send_107 [0, 1, 2, 3, 4, 5, 6, 7, 8, 9, 10, 11, 12, 13, 14] rfl rfl [sa, ca 0, ca 1, ca 2, ca 3, cb 0, cb 1, cb 2, cb 3, ad 0, ad 1, ad 2, ad 3, ad 4, ad 5] rfl rfl rfl 0 4 rfl rfl rfl rfl rfl (Nat.le_of_ble_eq_true rfl) ⟨Nat.le_of_ble_eq_true rfl, Nat.le_of_ble_eq_true rfl⟩ ⟨Nat.le_refl _, Nat.le_refl _⟩ ?_
        refine k_callv (ws' := wSd sa (ca 0) (cb 0) v2 ++ wCopy V ca A1 ++ wCopy V cb B2 ++ wRing V ad (u2 (u2 (rRes A1 B2 R2 i3) 3 (i3 * 2 + 0) ((A1 1 i3) + (B2 1 i3))) 3 (i3 * 2 + 1) (jD A1 B2 (rRes A1 B2 R2 i3) i3))) (As := [.int (nI i3), .int ((A1 1 i3) + (B2 1 i3)), .int (jD A1 B2 (rRes A1 B2 R2 i3) i3)]) (rest := []) cx (c_X3_putResult V ad (rRes A1 B2 R2 i3) (nI i3) ((A1 1 i3) + (B2 1 i3)) (jD A1 B2 (rRes A1 B2 R2 i3) i3) i3 rfl (by omega)) ml_X4_59 dX4_send_110 [9, 10, 11, 12, 13, 14] rfl rfl [ad 0, ad 1, ad 2, ad 3, ad 4, ad 5] rfl rfl rfl 0 3 rfl rfl rfl rfl rfl (Nat.le_of_ble_eq_true rfl) ⟨Nat.le_of_ble_eq_true rfl, Nat.le_of_ble_eq_true rfl⟩ ⟨Nat.le_refl _, Nat.le_refl _⟩ ?_
        refine g_iinc (x := nI i3) (v := nI (i3 + 1)) (lv' := [(0, .ref sa), (1, .ref (ad 0)), (2, .int (nI (eA R n))), (3, .int (nI (i3 + 1)))]) cx dX4_send_113 rfl (by decide) (nI_add _ _) rfl ?_
        refine g_goto cx 75 dX4_send_116 (by decide) ?_
        exact ihi3
      · skip
        refine g_iload_n (v := nI o) cx dX4_send_75 rfl ?_
        refine g_aload_n (v := ad 0) cx dX4_send_76 rfl ?_
        refine g_get (v := .int ((rRes A1 B2 R2 o) 5 1)) cx fk_X4_52 dX4_send_77 9 rfl rfl ?_
        refine g_icmp_ge cx 119 dX4_send_80 (by decide) (fun hw6 => ?_) (fun hw6 => absurd (rf_geMP rfl ((congrFun (rRes_k (by decide) _) 1).trans ho2) (by omega) (by omega) (by omega)) hw6)
        refine g_aload_n (v := ad 0) cx dX4_send_119 rfl ?_
        refine g_iconst (v := 1) cx dX4_send_120 (by decide) ?_
        refine g_put (ws' := wSd sa (ca 0) (cb 0) v2 ++ wCopy V ca A1 ++ wCopy V cb B2 ++ wRing V ad (u2 (rRes A1 B2 R2 o) 5 5 1)) cx fk_X4_62 dX4_send_121 9 rfl (rfl) (rfl) (Nat.le_of_ble_eq_true rfl) rfl ?_
        have hn3 : (u2 (rRes A1 B2 R2 o) 5 5 1) 5 0 = nI n := (congrFun (rRes_k (A := A1) (B := B2) (R := R2) (k := 5) (by decide) o) 0).trans hn2
        have hm3 : rLinks (u2 (rRes A1 B2 R2 o) 5 5 1) = nI m := by rw [← hm2]; unfold rLinks; rw [show (u2 (rRes A1 B2 R2 o) 5 5 1) 5 4 = R2 5 4 from congrFun (rRes_k (k := 5) (by decide) o) 4, show (u2 (rRes A1 B2 R2 o) 5 5 1) 5 0 = R2 5 0 from congrFun (rRes_k (k := 5) (by decide) o) 0]
        refine g_aload_n (v := ad 0) cx dX4_send_124 rfl ?_
        refine k_calli (r0 := bI (¬ (rRes A1 B2 R2 o) 5 4 = 0 ∧ rCuts (rRes A1 B2 R2 o) m = 0)) (ws' := wSd sa (ca 0) (cb 0) v2 ++ wCopy V ca A1 ++ wCopy V cb B2 ++ wRing V ad (u2 (rRes A1 B2 R2 o) 5 5 1)) (As := []) (rest := []) cx (c_X3_isWhole V ad (u2 (rRes A1 B2 R2 o) 5 5 1) m hm3 (by omega)) ml_X4_96 dX4_send_125 [9, 10, 11, 12, 13, 14] rfl rfl [ad 0, ad 1, ad 2, ad 3, ad 4, ad 5] rfl rfl rfl 0 3 rfl rfl rfl rfl rfl (Nat.le_of_ble_eq_true rfl) ⟨Nat.le_of_ble_eq_true rfl, Nat.le_of_ble_eq_true rfl⟩ ⟨Nat.le_refl _, Nat.le_refl _⟩ ?_
        refine g_if_eq_b cx 138 dX4_send_128 (by decide) (fun hw7 => ?_) (fun hw7 => ?_)
        · skip
          refine g_aload_n (v := ad 0) cx dX4_send_138 rfl ?_
          refine k_callv (ws' := wSd sa (ca 0) (cb 0) v2 ++ wCopy V ca A1 ++ wCopy V cb B2 ++ wRing V ad (rTimesT (u2 (rRes A1 B2 R2 o) 5 5 1) n)) (As := []) (rest := []) cx (c_X3_takeTimesOfTurning V ad (u2 (rRes A1 B2 R2 o) 5 5 1) n hn3 (by omega)) ml_X4_103 dX4_send_139 [9, 10, 11, 12, 13, 14] rfl rfl [ad 0, ad 1, ad 2, ad 3, ad 4, ad 5] rfl rfl rfl 0 3 rfl rfl rfl rfl rfl (Nat.le_of_ble_eq_true rfl) ⟨Nat.le_of_ble_eq_true rfl, Nat.le_of_ble_eq_true rfl⟩ ⟨Nat.le_refl _, Nat.le_refl _⟩ ?_
          exact hret _ _ _ dX4_send_142 (by rw [← hRf, snd3]; simp only []; rw [rTimes, if_neg (show ¬ (¬ (u2 (rRes A1 B2 R2 o) 5 5 1) 5 4 = 0 ∧ rCuts (u2 (rRes A1 B2 R2 o) 5 5 1) m = 0) from hw7)])
        · skip
          refine g_aload_n (v := ad 0) cx dX4_send_131 rfl ?_
          refine k_callv (ws' := wSd sa (ca 0) (cb 0) v2 ++ wCopy V ca A1 ++ wCopy V cb B2 ++ wRing V ad (u1 (u2 (rRes A1 B2 R2 o) 5 5 1) 4 (rFill ((rRes A1 B2 R2 o) 4) (rLen (rRes A1 B2 R2 o) 0 (n + 1) + (rRes A1 B2 R2 o) 5 0) 0 2))) (As := []) (rest := []) cx (c_X3_takeTimesAround V ad (u2 (rRes A1 B2 R2 o) 5 5 1) n hn3 (by omega)) ml_X4_100 dX4_send_132 [9, 10, 11, 12, 13, 14] rfl rfl [ad 0, ad 1, ad 2, ad 3, ad 4, ad 5] rfl rfl rfl 0 3 rfl rfl rfl rfl rfl (Nat.le_of_ble_eq_true rfl) ⟨Nat.le_of_ble_eq_true rfl, Nat.le_of_ble_eq_true rfl⟩ ⟨Nat.le_refl _, Nat.le_refl _⟩ ?_
          refine g_goto cx 142 dX4_send_135 (by decide) ?_
          exact hret _ _ _ dX4_send_142 (by rw [← hRf, snd3]; simp only []; rw [rTimes, if_pos (show (¬ (u2 (rRes A1 B2 R2 o) 5 5 1) 5 4 = 0 ∧ rCuts (u2 (rRes A1 B2 R2 o) 5 5 1) m = 0) from hw7)]; rfl)
