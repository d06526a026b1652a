def cStart (R C : S2) (n : Nat) : S2 := fl (fun i C => u2 (u2 (u2 C 0 i (R 2 (i * 5 + 4))) 1 i 0) 2 i (R 2 (i * 5 + 2))) n C
abbrev cFor (C R : S2) (i d : Nat) : Prop := (R 2 (i * 5 + 1) = 112 ∧ C 2 i = 0) ∨ (¬ R 2 (i * 5 + 1) = 112 ∧ (R 2 (i * 5 + 1) = 98 ∨ R 2 (i * 5 + 2) = R 0 (d * 9 + 0)))
def cPl (C R : S2) (i : Nat) : S2 := if R 2 (i * 5 + 1) = 112 then u2 C 2 i (C 2 i - 1) else C
def oR (C R : S2) (i d t : Nat) : S2 := if R 2 (i * 5 + 0) = 114 then R else if R 0 (d * 9 + 6) = 1 then R else u2 R 0 (d * 9 + (1 + t)) (C 0 i)
def oC (C R : S2) (i d t : Nat) : S2 := if R 2 (i * 5 + 0) = 114 then u2 (u2 C 0 i (if R 2 (i * 5 + 1) = 98 then C 0 i ||| R 0 (d * 9 + (1 + t)) else R 0 (d * 9 + (1 + t)))) 1 i (C 1 i + 1)
  else if R 2 (i * 5 + 0) = 120 then u2 (u2 C 0 i (R 0 (d * 9 + (1 + t)))) 1 i (C 1 i + (if R 0 (d * 9 + 6) = 1 then 1 else 3))
  else if R 0 (d * 9 + 6) = 1 then C else u2 C 1 i (C 1 i + 1)
def atn (R : S2) (i : Nat) : Nat := (R 2 (i * 5 + 3)).toNatClampNeg
def okAt (R : S2) (o : Nat) : Prop := ∀ i, i < o → R 2 (i * 5 + 3) = nI (atn R i) ∧ atn R i ≤ 3
def pStep (d i : Nat) (s : S2 × S2 × Int32) : S2 × S2 × Int32 :=
  if cFor s.1 s.2.1 i d then (oC (cPl s.1 s.2.1 i) s.2.1 i d (atn s.2.1 i), oR (cPl s.1 s.2.1 i) s.2.1 i d (atn s.2.1 i), s.2.2 ||| ((1 : Int32) <<< (nI d &&& 31))) else (cPl s.1 s.2.1 i, s.2.1, s.2.2)
def pAll (o d : Nat) (s : S2 × S2 × Int32) : S2 × S2 × Int32 := fl (pStep d) o s
/-- what passing leaves of a ring: all but row 0 -/
def rKeep (R R' : S2) : Prop := ∀ k, k ≠ 0 → R' k = R k
theorem rKeep.rf {R : S2} : rKeep R R := fun _ _ => rfl
theorem rKeep.tr {A B C : S2} (h : rKeep A B) (g : rKeep B C) : rKeep A C := fun k hk => (g k hk).trans (h k hk)
theorem rKeep.u2 {R R' : S2} (h : rKeep R R') (j : Nat) (v : Int32) : rKeep R (u2 R' 0 j v) := fun k hk => by rw [u2_n hk]; exact h k hk
theorem oR_keep {C R : S2} {i d t : Nat} : rKeep R (oR C R i d t) := by
  unfold oR
  split
  · exact rKeep.rf
  · split
    · exact rKeep.rf
    · exact rKeep.rf.u2 _ _
theorem pStep_keep {d i : Nat} {s : S2 × S2 × Int32} : rKeep s.2.1 (pStep d i s).2.1 := by
  unfold pStep
  split
  · exact oR_keep
  · exact rKeep.rf
theorem pAll_keep {o d : Nat} {s : S2 × S2 × Int32} : rKeep s.2.1 (pAll o d s).2.1 := fl_inv (σ := S2 × S2 × Int32) (fun t => rKeep s.2.1 t.2.1) rKeep.rf (fun i t h => h.tr pStep_keep) o
theorem okAt.keep {R R' : S2} {o : Nat} (h : okAt R o) (k : rKeep R R') : okAt R' o := fun i hi => by
  have e : R' 2 = R 2 := k 2 (by decide)
  unfold atn
  rw [e]
  exact h i hi
def rm_X0_start : Room := { frames := 1, cells := 0, slots := 0, locals := 22 }
set_option maxRecDepth 100000 in
set_option maxHeartbeats 4000000 in
theorem c_X0_start (V : VT) (cd : Nat → Nat) (C : S2) (ad : Nat → Nat) (R : S2) (o : Nat) (ho : R 5 1 = nI o) (ho4 : o ≤ 4) : CV V yX0_start cX0_start 3 rm_X0_start [.ref (cd 0), .ref (ad 0)] (wCopy V cd C ++ wRing V ad R) (fun w_ => w_ = wCopy V cd (cStart R C o) ++ wRing V ad R) := by
  refine CV_intro (by decide) (Nat.le_of_ble_eq_true rfl) (fun K cx hci hret => ?_)
  show G V K 3 0 0 (wCopy V cd C ++ wRing V ad R) 0 [(0, .ref (cd 0)), (1, .ref (ad 0))] []
  refine g_iconst (v := 0) cx dX0_start_0 (by decide) ?_
  refine g_istore_n (lv' := [(0, .ref (cd 0)), (1, .ref (ad 0)), (2, .int 0)]) cx dX0_start_1 (by decide) rfl ?_
  refine rf_dn (P := fun i1 => G V K 3 0 0 (wCopy V cd (cStart R C i1) ++ wRing V ad R) 2 [(0, .ref (cd 0)), (1, .ref (ad 0)), (2, .int (nI i1))] []) (o) (fun i1 hi1 ihi1 => ?_) ?_
  · skip
    refine g_iload_n (v := nI i1) cx dX0_start_2 rfl ?_
    refine g_aload_n (v := ad 0) cx dX0_start_3 rfl ?_
    refine g_get (v := .int (R 5 1)) cx fk_X0_21 dX0_start_4 4 rfl rfl ?_
    refine g_icmp_ge cx 47 dX0_start_7 (by decide) (fun hw1 => absurd hw1 (rf_geMN rfl ho (by omega) (by omega) (by omega))) (fun hw1 => ?_)
    refine g_aload_n (v := cd 0) cx dX0_start_10 rfl ?_
    refine g_get (v := .ref (cd 1)) cx fk_X0_9 dX0_start_11 0 rfl rfl ?_
    refine g_iload_n (v := nI i1) cx dX0_start_14 rfl ?_
    refine g_aload_n (v := ad 0) cx dX0_start_15 rfl ?_
    refine g_iload_n (v := nI i1) cx dX0_start_16 rfl ?_
    refine g_iconst (v := 4) cx dX0_start_17 (by decide) ?_
    refine k_calli (r0 := R 2 (i1 * 5 + 4)) (ws' := wCopy V cd (cStart R C i1) ++ wRing V ad R) (As := [.int (nI i1), .int 4]) (rest := [.int (nI i1), .ref (cd 1)]) cx (c_X3_ofOrder V ad R (nI i1) 4 (i1 * 5 + 4) (rf_add (rf_mul rfl rfl) (nl 4)) (by omega)) ml_X0_27 dX0_start_18 [4, 5, 6, 7, 8, 9] rfl rfl [ad 0, ad 1, ad 2, ad 3, ad 4, ad 5] rfl rfl rfl 0 3 rfl rfl rfl rfl rfl (Nat.le_of_ble_eq_true rfl) ⟨Nat.le_of_ble_eq_true rfl, Nat.le_of_ble_eq_true rfl⟩ ⟨Nat.le_refl _, Nat.le_refl _⟩ ?_
    refine g_iast (ws' := wCopy V cd (u2 (cStart R C i1) 0 i1 (R 2 (i1 * 5 + 4))) ++ wRing V ad R) cx dX0_start_21 1 i1 rfl (rfl) (by omega) (by first | decide | omega) rfl ?_
    refine g_aload_n (v := cd 0) cx dX0_start_22 rfl ?_
    refine g_get (v := .ref (cd 2)) cx fk_X0_15 dX0_start_23 0 rfl rfl ?_
    refine g_iload_n (v := nI i1) cx dX0_start_26 rfl ?_
    refine g_iconst (v := 0) cx dX0_start_27 (by decide) ?_
    refine g_iast (ws' := wCopy V cd (u2 (u2 (cStart R C i1) 0 i1 (R 2 (i1 * 5 + 4))) 1 i1 0) ++ wRing V ad R) cx dX0_start_28 2 i1 rfl (rfl) (by omega) (by first | decide | omega) rfl ?_
    refine g_aload_n (v := cd 0) cx dX0_start_29 rfl ?_
    refine g_get (v := .ref (cd 3)) cx fk_X0_18 dX0_start_30 0 rfl rfl ?_
    refine g_iload_n (v := nI i1) cx dX0_start_33 rfl ?_
    refine g_aload_n (v := ad 0) cx dX0_start_34 rfl ?_
    refine g_iload_n (v := nI i1) cx dX0_start_35 rfl ?_
    refine g_iconst (v := 2) cx dX0_start_36 (by decide) ?_
    refine k_calli (r0 := R 2 (i1 * 5 + 2)) (ws' := wCopy V cd (u2 (u2 (cStart R C i1) 0 i1 (R 2 (i1 * 5 + 4))) 1 i1 0) ++ wRing V ad R) (As := [.int (nI i1), .int 2]) (rest := [.int (nI i1), .ref (cd 3)]) cx (c_X3_ofOrder V ad R (nI i1) 2 (i1 * 5 + 2) (rf_add (rf_mul rfl rfl) (nl 2)) (by omega)) ml_X0_27 dX0_start_37 [4, 5, 6, 7, 8, 9] rfl rfl [ad 0, ad 1, ad 2, ad 3, ad 4, ad 5] rfl rfl rfl 0 3 rfl rfl rfl rfl rfl (Nat.le_of_ble_eq_true rfl) ⟨Nat.le_of_ble_eq_true rfl, Nat.le_of_ble_eq_true rfl⟩ ⟨Nat.le_refl _, Nat.le_refl _⟩ ?_
    refine g_iast (ws' := wCopy V cd (u2 (u2 (u2 (cStart R C i1) 0 i1 (R 2 (i1 * 5 + 4))) 1 i1 0) 2 i1 (R 2 (i1 * 5 + 2))) ++ wRing V ad R) cx dX0_start_40 3 i1 rfl (rfl) (by omega) (by first | decide | omega) rfl ?_
    refine g_iinc (x := nI i1) (v := nI (i1 + 1)) (lv' := [(0, .ref (cd 0)), (1, .ref (ad 0)), (2, .int (nI (i1 + 1)))]) cx dX0_start_41 rfl (by decide) (nI_add _ _) rfl ?_
    refine g_goto cx 2 dX0_start_44 (by decide) ?_
    exact ihi1
  · skip
    refine g_iload_n (v := nI o) cx dX0_start_2 rfl ?_
    refine g_aload_n (v := ad 0) cx dX0_start_3 rfl ?_
    refine g_get (v := .int (R 5 1)) cx fk_X0_21 dX0_start_4 4 rfl rfl ?_
    refine g_icmp_ge cx 47 dX0_start_7 (by decide) (fun hw2 => ?_) (fun hw2 => absurd (rf_geMP rfl ho (by omega) (by omega) (by omega)) hw2)
    exact hret _ _ _ dX0_start_47 (rfl)
def rm_X0_comesFor : Room := { frames := 1, cells := 0, slots := 0, locals := 22 }
set_option maxRecDepth 100000 in
set_option maxHeartbeats 4000000 in
theorem c_X0_comesFor (V : VT) (cd : Nat → Nat) (C : S2) (ad : Nat → Nat) (R : S2) (x y : Int32) (i d : Nat) (hx : x = nI i) (hy : y = nI d) (hi : i < 4) (hd : d < 6) : CI V yX0_comesFor cX0_comesFor 6 .boolean rm_X0_comesFor [.ref (cd 0), .ref (ad 0), .int x, .int y] (wCopy V cd C ++ wRing V ad R) (fun r_ w_ => r_ = bI (cFor C R i d) ∧ w_ = wCopy V cd (cPl C R i) ++ wRing V ad R) := by
  refine CI_intro (by decide) (Nat.le_of_ble_eq_true rfl) (fun K cx hret => ?_)
  show G V K 6 0 0 (wCopy V cd C ++ wRing V ad R) 0 [(0, .ref (cd 0)), (1, .ref (ad 0)), (2, .int x), (3, .int y)] []
  refine g_aload_n (v := ad 0) cx dX0_comesFor_0 rfl ?_
  refine g_iload_n (v := x) cx dX0_comesFor_1 rfl ?_
  refine g_iconst (v := 1) cx dX0_comesFor_2 (by decide) ?_
  refine k_calli (r0 := R 2 (i * 5 + 1)) (ws' := wCopy V cd C ++ wRing V ad R) (As := [.int x, .int 1]) (rest := []) cx (c_X3_ofOrder V ad R x 1 (i * 5 + 1) (rf_add (rf_mul hx rfl) (nl 1)) (by omega)) ml_X0_27 dX0_comesFor_3 [4, 5, 6, 7, 8, 9] rfl rfl [ad 0, ad 1, ad 2, ad 3, ad 4, ad 5] rfl rfl rfl 0 3 rfl rfl rfl rfl rfl (Nat.le_of_ble_eq_true rfl) ⟨Nat.le_of_ble_eq_true rfl, Nat.le_of_ble_eq_true rfl⟩ ⟨Nat.le_refl _, Nat.le_refl _⟩ ?_
  refine g_istore (lv' := [(0, .ref (cd 0)), (1, .ref (ad 0)), (2, .int x), (3, .int y), (4, .int (R 2 (i * 5 + 1)))]) cx dX0_comesFor_6 (by decide) rfl ?_
  refine g_iload (v := R 2 (i * 5 + 1)) cx dX0_comesFor_8 rfl ?_
  refine g_bipush (v := 112) cx dX0_comesFor_10 (by decide) ?_
  refine g_icmp_ne cx 44 dX0_comesFor_12 (by decide) (fun hw1 => ?_) (fun hw1 => ?_)
  · skip
    refine g_iload (v := R 2 (i * 5 + 1)) cx dX0_comesFor_44 rfl ?_
    refine g_bipush (v := 98) cx dX0_comesFor_46 (by decide) ?_
    refine g_icmp_eq cx 66 dX0_comesFor_48 (by decide) (fun hw2 => ?_) (fun hw2 => ?_)
    · skip
      refine g_iconst (v := 1) cx dX0_comesFor_66 (by decide) ?_
      refine g_goto cx 71 dX0_comesFor_67 (by decide) ?_
      exact hret _ _ _ _ dX0_comesFor_71 (by first | rfl | exact rf_bnar) (⟨bI_t (Or.inr ⟨hw1, Or.inl hw2⟩), by rw [cPl, if_neg hw1]⟩)
    · skip
      refine g_aload_n (v := ad 0) cx dX0_comesFor_51 rfl ?_
      refine g_iload_n (v := x) cx dX0_comesFor_52 rfl ?_
      refine g_iconst (v := 2) cx dX0_comesFor_53 (by decide) ?_
      refine k_calli (r0 := R 2 (i * 5 + 2)) (ws' := wCopy V cd C ++ wRing V ad R) (As := [.int x, .int 2]) (rest := []) cx (c_X3_ofOrder V ad R x 2 (i * 5 + 2) (rf_add (rf_mul hx rfl) (nl 2)) (by omega)) ml_X0_27 dX0_comesFor_54 [4, 5, 6, 7, 8, 9] rfl rfl [ad 0, ad 1, ad 2, ad 3, ad 4, ad 5] rfl rfl rfl 0 3 rfl rfl rfl rfl rfl (Nat.le_of_ble_eq_true rfl) ⟨Nat.le_of_ble_eq_true rfl, Nat.le_of_ble_eq_true rfl⟩ ⟨Nat.le_refl _, Nat.le_refl _⟩ ?_
      refine g_aload_n (v := ad 0) cx dX0_comesFor_57 rfl ?_
      refine g_iload_n (v := y) cx dX0_comesFor_58 rfl ?_
      refine g_iconst (v := 0) cx dX0_comesFor_59 (by decide) ?_
      refine k_calli (r0 := R 0 (d * 9 + 0)) (ws' := wCopy V cd C ++ wRing V ad R) (As := [.int y, .int 0]) (rest := [.int (R 2 (i * 5 + 2))]) cx (c_X3_ofDrive V ad R y 0 (d * 9 + 0) (rf_add (rf_mul hy rfl) (nl 0)) (by omega)) ml_X0_31 dX0_comesFor_60 [4, 5, 6, 7, 8, 9] rfl rfl [ad 0, ad 1, ad 2, ad 3, ad 4, ad 5] rfl rfl rfl 0 3 rfl rfl rfl rfl rfl (Nat.le_of_ble_eq_true rfl) ⟨Nat.le_of_ble_eq_true rfl, Nat.le_of_ble_eq_true rfl⟩ ⟨Nat.le_refl _, Nat.le_refl _⟩ ?_
      refine g_icmp_ne cx 70 dX0_comesFor_63 (by decide) (fun hw3 => ?_) (fun hw3 => ?_)
      · skip
        refine g_iconst (v := 0) cx dX0_comesFor_70 (by decide) ?_
        exact hret _ _ _ _ dX0_comesFor_71 (by first | rfl | exact rf_bnar) (⟨bI_f (fun h => h.elim (fun h => hw1 h.1) (fun h => h.2.elim hw2 hw3)), by rw [cPl, if_neg hw1]⟩)
      · skip
        refine g_iconst (v := 1) cx dX0_comesFor_66 (by decide) ?_
        refine g_goto cx 71 dX0_comesFor_67 (by decide) ?_
        exact hret _ _ _ _ dX0_comesFor_71 (by first | rfl | exact rf_bnar) (⟨bI_t (Or.inr ⟨hw1, Or.inr hw3⟩), by rw [cPl, if_neg hw1]⟩)
  · skip
    refine g_aload_n (v := cd 0) cx dX0_comesFor_15 rfl ?_
    refine g_get (v := .ref (cd 3)) cx fk_X0_18 dX0_comesFor_16 0 rfl rfl ?_
    refine g_iload_n (v := x) cx dX0_comesFor_19 rfl ?_
    refine g_iald cx dX0_comesFor_20 3 i rfl (hx) (by omega) (by first | decide | omega) ?_
    refine g_if_ne cx 28 dX0_comesFor_21 (by decide) (fun hw4 => ?_) (fun hw4 => ?_)
    · skip
      refine g_iconst (v := 0) cx dX0_comesFor_28 (by decide) ?_
      refine g_istore (lv' := [(0, .ref (cd 0)), (1, .ref (ad 0)), (2, .int x), (3, .int y), (4, .int (R 2 (i * 5 + 1))), (5, .int 0)]) cx dX0_comesFor_29 (by decide) rfl ?_
      refine g_aload_n (v := cd 0) cx dX0_comesFor_31 rfl ?_
      refine g_get (v := .ref (cd 3)) cx fk_X0_18 dX0_comesFor_32 0 rfl rfl ?_
      refine g_iload_n (v := x) cx dX0_comesFor_35 rfl ?_
      refine g_dup2 cx dX0_comesFor_36 rfl rfl ?_
      refine g_iald cx dX0_comesFor_37 3 i rfl (hx) (by omega) (by first | decide | omega) ?_
      refine g_iconst (v := 1) cx dX0_comesFor_38 (by decide) ?_
      refine g_isub cx dX0_comesFor_39 ?_
      refine g_iast (ws' := wCopy V cd (u2 C 2 i ((C 2 i) - 1)) ++ wRing V ad R) cx dX0_comesFor_40 3 i rfl (hx) (by omega) (by first | decide | omega) rfl ?_
      refine g_iload (v := 0) cx dX0_comesFor_41 rfl ?_
      exact hret _ _ _ _ dX0_comesFor_43 (by first | rfl | exact rf_bnar) (⟨bI_f (fun h => h.elim (fun h => hw4 h.2) (fun h => h.1 hw1)), by rw [cPl, if_pos hw1]⟩)
    · skip
      refine g_iconst (v := 1) cx dX0_comesFor_24 (by decide) ?_
      refine g_goto cx 29 dX0_comesFor_25 (by decide) ?_
      refine g_istore (lv' := [(0, .ref (cd 0)), (1, .ref (ad 0)), (2, .int x), (3, .int y), (4, .int (R 2 (i * 5 + 1))), (5, .int 1)]) cx dX0_comesFor_29 (by decide) rfl ?_
      refine g_aload_n (v := cd 0) cx dX0_comesFor_31 rfl ?_
      refine g_get (v := .ref (cd 3)) cx fk_X0_18 dX0_comesFor_32 0 rfl rfl ?_
      refine g_iload_n (v := x) cx dX0_comesFor_35 rfl ?_
      refine g_dup2 cx dX0_comesFor_36 rfl rfl ?_
      refine g_iald cx dX0_comesFor_37 3 i rfl (hx) (by omega) (by first | decide | omega) ?_
      refine g_iconst (v := 1) cx dX0_comesFor_38 (by decide) ?_
      refine g_isub cx dX0_comesFor_39 ?_
      refine g_iast (ws' := wCopy V cd (u2 C 2 i ((C 2 i) - 1)) ++ wRing V ad R) cx dX0_comesFor_40 3 i rfl (hx) (by omega) (by first | decide | omega) rfl ?_
      refine g_iload (v := 1) cx dX0_comesFor_41 rfl ?_
      exact hret _ _ _ _ dX0_comesFor_43 (by first | rfl | exact rf_bnar) (⟨bI_t (Or.inl ⟨hw1, hw4⟩), by rw [cPl, if_pos hw1]⟩)
def rm_X0_obey : Room := { frames := 1, cells := 0, slots := 0, locals := 23 }
set_option maxRecDepth 100000 in
set_option maxHeartbeats 4000000 in
theorem c_X0_obey (V : VT) (cd : Nat → Nat) (C : S2) (ad : Nat → Nat) (R : S2) (x y : Int32) (i d : Nat) (hx : x = nI i) (hy : y = nI d) (hi : i < 4) (hd : d < 6) (t : Nat) (ht : R 2 (i * 5 + 3) = nI t) (ht3 : t ≤ 3) : CV V yX0_obey cX0_obey 8 rm_X0_obey [.ref (cd 0), .ref (ad 0), .int x, .int y] (wCopy V cd C ++ wRing V ad R) (fun w_ => w_ = wCopy V cd (oC C R i d t) ++ wRing V ad (oR C R i d t)) := by
  refine CV_intro (by decide) (Nat.le_of_ble_eq_true rfl) (fun K cx hci hret => ?_)
  show G V K 8 0 0 (wCopy V cd C ++ wRing V ad R) 0 [(0, .ref (cd 0)), (1, .ref (ad 0)), (2, .int x), (3, .int y)] []
  refine g_aload_n (v := ad 0) cx dX0_obey_0 rfl ?_
  refine g_iload_n (v := x) cx dX0_obey_1 rfl ?_
  refine g_iconst (v := 0) cx dX0_obey_2 (by decide) ?_
  refine k_calli (r0 := R 2 (i * 5 + 0)) (ws' := wCopy V cd C ++ wRing V ad R) (As := [.int x, .int 0]) (rest := []) cx (c_X3_ofOrder V ad R x 0 (i * 5 + 0) (rf_add (rf_mul hx rfl) (nl 0)) (by omega)) ml_X0_27 dX0_obey_3 [4, 5, 6, 7, 8, 9] rfl rfl [ad 0, ad 1, ad 2, ad 3, ad 4, ad 5] rfl rfl rfl 0 3 rfl rfl rfl rfl rfl (Nat.le_of_ble_eq_true rfl) ⟨Nat.le_of_ble_eq_true rfl, Nat.le_of_ble_eq_true rfl⟩ ⟨Nat.le_refl _, Nat.le_refl _⟩ ?_
  refine g_istore (lv' := [(0, .ref (cd 0)), (1, .ref (ad 0)), (2, .int x), (3, .int y), (4, .int (R 2 (i * 5 + 0)))]) cx dX0_obey_6 (by decide) rfl ?_
  refine g_iconst (v := 1) cx dX0_obey_8 (by decide) ?_
  refine g_aload_n (v := ad 0) cx dX0_obey_9 rfl ?_
  refine g_iload_n (v := x) cx dX0_obey_10 rfl ?_
  refine g_iconst (v := 3) cx dX0_obey_11 (by decide) ?_
  refine k_calli (r0 := R 2 (i * 5 + 3)) (ws' := wCopy V cd C ++ wRing V ad R) (As := [.int x, .int 3]) (rest := [.int 1]) cx (c_X3_ofOrder V ad R x 3 (i * 5 + 3) (rf_add (rf_mul hx rfl) (nl 3)) (by omega)) ml_X0_27 dX0_obey_12 [4, 5, 6, 7, 8, 9] rfl rfl [ad 0, ad 1, ad 2, ad 3, ad 4, ad 5] rfl rfl rfl 0 3 rfl rfl rfl rfl rfl (Nat.le_of_ble_eq_true rfl) ⟨Nat.le_of_ble_eq_true rfl, Nat.le_of_ble_eq_true rfl⟩ ⟨Nat.le_refl _, Nat.le_refl _⟩ ?_
  refine g_iadd cx dX0_obey_15 ?_
  refine g_istore (lv' := [(0, .ref (cd 0)), (1, .ref (ad 0)), (2, .int x), (3, .int y), (4, .int (R 2 (i * 5 + 0))), (5, .int (1 + (R 2 (i * 5 + 3))))]) cx dX0_obey_16 (by decide) rfl ?_
  refine g_aload_n (v := ad 0) cx dX0_obey_18 rfl ?_
  refine g_iload_n (v := y) cx dX0_obey_19 rfl ?_
  refine g_iload (v := 1 + (R 2 (i * 5 + 3))) cx dX0_obey_20 rfl ?_
  refine k_calli (r0 := R 0 (d * 9 + (1 + t))) (ws' := wCopy V cd C ++ wRing V ad R) (As := [.int y, .int (1 + (R 2 (i * 5 + 3)))]) (rest := []) cx (c_X3_ofDrive V ad R y (1 + (R 2 (i * 5 + 3))) (d * 9 + (1 + t)) (rf_add (rf_mul hy rfl) (rf_add (nl 1) ht)) (by omega)) ml_X0_31 dX0_obey_22 [4, 5, 6, 7, 8, 9] rfl rfl [ad 0, ad 1, ad 2, ad 3, ad 4, ad 5] rfl rfl rfl 0 3 rfl rfl rfl rfl rfl (Nat.le_of_ble_eq_true rfl) ⟨Nat.le_of_ble_eq_true rfl, Nat.le_of_ble_eq_true rfl⟩ ⟨Nat.le_refl _, Nat.le_refl _⟩ ?_
  refine g_istore (lv' := [(0, .ref (cd 0)), (1, .ref (ad 0)), (2, .int x), (3, .int y), (4, .int (R 2 (i * 5 + 0))), (5, .int (1 + (R 2 (i * 5 + 3)))), (6, .int (R 0 (d * 9 + (1 + t))))]) cx dX0_obey_25 (by decide) rfl ?_
  refine g_aload_n (v := ad 0) cx dX0_obey_27 rfl ?_
  refine g_iload_n (v := y) cx dX0_obey_28 rfl ?_
  refine k_calli (r0 := bI (R 0 (d * 9 + 6) = 1)) (ws' := wCopy V cd C ++ wRing V ad R) (As := [.int y]) (rest := []) cx (c_X3_isSafe V ad R y (d * 9 + 6) (rf_add (rf_mul hy rfl) rfl) (by omega)) ml_X0_34 dX0_obey_29 [4, 5, 6, 7, 8, 9] rfl rfl [ad 0, ad 1, ad 2, ad 3, ad 4, ad 5] rfl rfl rfl 0 3 rfl rfl rfl rfl rfl (Nat.le_of_ble_eq_true rfl) ⟨Nat.le_of_ble_eq_true rfl, Nat.le_of_ble_eq_true rfl⟩ ⟨Nat.le_refl _, Nat.le_refl _⟩ ?_
  refine g_istore (lv' := [(0, .ref (cd 0)), (1, .ref (ad 0)), (2, .int x), (3, .int y), (4, .int (R 2 (i * 5 + 0))), (5, .int (1 + (R 2 (i * 5 + 3)))), (6, .int (R 0 (d * 9 + (1 + t)))), (7, .int (bI (R 0 (d * 9 + 6) = 1)))]) cx dX0_obey_32 (by decide) rfl ?_
  refine g_iload (v := R 2 (i * 5 + 0)) cx dX0_obey_34 rfl ?_
  refine g_bipush (v := 114) cx dX0_obey_36 (by decide) ?_
  refine g_icmp_ne cx 83 dX0_obey_38 (by decide) (fun hw1 => ?_) (fun hw1 => ?_)
  · skip
    refine g_iload (v := bI (R 0 (d * 9 + 6) = 1)) cx dX0_obey_83 rfl ?_
    refine g_if_ne_b cx 101 dX0_obey_85 (by decide) (fun hw2 => ?_) (fun hw2 => ?_)
    · skip
      refine g_iload (v := R 2 (i * 5 + 0)) cx dX0_obey_101 rfl ?_
      refine g_bipush (v := 120) cx dX0_obey_103 (by decide) ?_
      refine g_icmp_ne cx 138 dX0_obey_105 (by decide) (fun hw3 => ?_) (fun hw3 => ?_)
      · skip
        refine g_iload (v := bI (R 0 (d * 9 + 6) = 1)) cx dX0_obey_138 rfl ?_
        refine g_if_ne_b cx 153 dX0_obey_140 (by decide) (fun hw4 => ?_) (fun hw4 => absurd (hw2) hw4)
        exact hret _ _ _ dX0_obey_153 (by simp only [oC, oR, if_neg hw1, if_pos hw2, if_neg hw3])
      · skip
        refine g_aload_n (v := cd 0) cx dX0_obey_108 rfl ?_
        refine g_get (v := .ref (cd 1)) cx fk_X0_9 dX0_obey_109 0 rfl rfl ?_
        refine g_iload_n (v := x) cx dX0_obey_112 rfl ?_
        refine g_iload (v := R 0 (d * 9 + (1 + t))) cx dX0_obey_113 rfl ?_
        refine g_iast (ws' := wCopy V cd (u2 C 0 i (R 0 (d * 9 + (1 + t)))) ++ wRing V ad R) cx dX0_obey_115 1 i rfl (hx) (by omega) (by first | decide | omega) rfl ?_
        refine g_aload_n (v := cd 0) cx dX0_obey_116 rfl ?_
        refine g_get (v := .ref (cd 2)) cx fk_X0_15 dX0_obey_117 0 rfl rfl ?_
        refine g_iload_n (v := x) cx dX0_obey_120 rfl ?_
        refine g_dup2 cx dX0_obey_121 rfl rfl ?_
        refine g_iald cx dX0_obey_122 2 i rfl (hx) (by omega) (by first | decide | omega) ?_
        refine g_top (y := C 1 i) (rfl) ?_
        refine g_iload (v := bI (R 0 (d * 9 + 6) = 1)) cx dX0_obey_123 rfl ?_
        refine g_if_eq_b cx 132 dX0_obey_125 (by decide) (fun hw5 => absurd (hw2) hw5) (fun hw5 => ?_)
        refine g_iconst (v := 1) cx dX0_obey_128 (by decide) ?_
        refine g_goto cx 133 dX0_obey_129 (by decide) ?_
        refine g_iadd cx dX0_obey_133 ?_
        refine g_iast (ws' := wCopy V cd (u2 (u2 C 0 i (R 0 (d * 9 + (1 + t)))) 1 i ((C 1 i) + 1)) ++ wRing V ad R) cx dX0_obey_134 2 i rfl (hx) (by omega) (by first | decide | omega) rfl ?_
        refine g_goto cx 153 dX0_obey_135 (by decide) ?_
        exact hret _ _ _ dX0_obey_153 (by simp only [oC, oR, if_neg hw1, if_pos hw2, if_pos hw3])
    · skip
      refine g_aload_n (v := ad 0) cx dX0_obey_88 rfl ?_
      refine g_iload_n (v := y) cx dX0_obey_89 rfl ?_
      refine g_iload (v := 1 + (R 2 (i * 5 + 3))) cx dX0_obey_90 rfl ?_
      refine g_aload_n (v := cd 0) cx dX0_obey_92 rfl ?_
      refine g_get (v := .ref (cd 1)) cx fk_X0_9 dX0_obey_93 0 rfl rfl ?_
      refine g_iload_n (v := x) cx dX0_obey_96 rfl ?_
      refine g_iald cx dX0_obey_97 1 i rfl (hx) (by omega) (by first | decide | omega) ?_
      refine k_callv (ws' := wCopy V cd C ++ wRing V ad (u2 R 0 (d * 9 + (1 + t)) (C 0 i))) (As := [.int y, .int (1 + (R 2 (i * 5 + 3))), .int (C 0 i)]) (rest := []) cx (c_X3_putDrive V ad R y (1 + (R 2 (i * 5 + 3))) (C 0 i) (d * 9 + (1 + t)) (rf_add (rf_mul hy rfl) (rf_add (nl 1) ht)) (by omega)) ml_X0_38 dX0_obey_98 [4, 5, 6, 7, 8, 9] rfl rfl [ad 0, ad 1, ad 2, ad 3, ad 4, ad 5] rfl rfl rfl 0 3 rfl rfl rfl rfl rfl (Nat.le_of_ble_eq_true rfl) ⟨Nat.le_of_ble_eq_true rfl, Nat.le_of_ble_eq_true rfl⟩ ⟨Nat.le_refl _, Nat.le_refl _⟩ ?_
      refine g_iload (v := R 2 (i * 5 + 0)) cx dX0_obey_101 rfl ?_
      refine g_bipush (v := 120) cx dX0_obey_103 (by decide) ?_
      refine g_icmp_ne cx 138 dX0_obey_105 (by decide) (fun hw6 => ?_) (fun hw6 => ?_)
      · skip
        refine g_iload (v := bI (R 0 (d * 9 + 6) = 1)) cx dX0_obey_138 rfl ?_
        refine g_if_ne_b cx 153 dX0_obey_140 (by decide) (fun hw7 => absurd hw7 (hw2)) (fun hw7 => ?_)
        refine g_aload_n (v := cd 0) cx dX0_obey_143 rfl ?_
        refine g_get (v := .ref (cd 2)) cx fk_X0_15 dX0_obey_144 0 rfl rfl ?_
        refine g_iload_n (v := x) cx dX0_obey_147 rfl ?_
        refine g_dup2 cx dX0_obey_148 rfl rfl ?_
        refine g_iald cx dX0_obey_149 2 i rfl (hx) (by omega) (by first | decide | omega) ?_
        refine g_iconst (v := 1) cx dX0_obey_150 (by decide) ?_
        refine g_iadd cx dX0_obey_151 ?_
        refine g_iast (ws' := wCopy V cd (u2 C 1 i ((C 1 i) + 1)) ++ wRing V ad (u2 R 0 (d * 9 + (1 + t)) (C 0 i))) cx dX0_obey_152 2 i rfl (hx) (by omega) (by first | decide | omega) rfl ?_
        exact hret _ _ _ dX0_obey_153 (by simp only [oC, oR, if_neg hw1, if_neg hw2, if_neg hw6])
      · skip
        refine g_aload_n (v := cd 0) cx dX0_obey_108 rfl ?_
        refine g_get (v := .ref (cd 1)) cx fk_X0_9 dX0_obey_109 0 rfl rfl ?_
        refine g_iload_n (v := x) cx dX0_obey_112 rfl ?_
        refine g_iload (v := R 0 (d * 9 + (1 + t))) cx dX0_obey_113 rfl ?_
        refine g_iast (ws' := wCopy V cd (u2 C 0 i (R 0 (d * 9 + (1 + t)))) ++ wRing V ad (u2 R 0 (d * 9 + (1 + t)) (C 0 i))) cx dX0_obey_115 1 i rfl (hx) (by omega) (by first | decide | omega) rfl ?_
        refine g_aload_n (v := cd 0) cx dX0_obey_116 rfl ?_
        refine g_get (v := .ref (cd 2)) cx fk_X0_15 dX0_obey_117 0 rfl rfl ?_
        refine g_iload_n (v := x) cx dX0_obey_120 rfl ?_
        refine g_dup2 cx dX0_obey_121 rfl rfl ?_
        refine g_iald cx dX0_obey_122 2 i rfl (hx) (by omega) (by first | decide | omega) ?_
        refine g_top (y := C 1 i) (rfl) ?_
        refine g_iload (v := bI (R 0 (d * 9 + 6) = 1)) cx dX0_obey_123 rfl ?_
        refine g_if_eq_b cx 132 dX0_obey_125 (by decide) (fun hw8 => ?_) (fun hw8 => absurd hw8 (hw2))
        refine g_iconst (v := 3) cx dX0_obey_132 (by decide) ?_
        refine g_iadd cx dX0_obey_133 ?_
        refine g_iast (ws' := wCopy V cd (u2 (u2 C 0 i (R 0 (d * 9 + (1 + t)))) 1 i ((C 1 i) + 3)) ++ wRing V ad (u2 R 0 (d * 9 + (1 + t)) (C 0 i))) cx dX0_obey_134 2 i rfl (hx) (by omega) (by first | decide | omega) rfl ?_
        refine g_goto cx 153 dX0_obey_135 (by decide) ?_
        exact hret _ _ _ dX0_obey_153 (by simp only [oC, oR, if_neg hw1, if_neg hw2, if_pos hw6])
  · skip
    refine g_aload_n (v := cd 0) cx dX0_obey_41 rfl ?_
    refine g_get (v := .ref (cd 1)) cx fk_X0_9 dX0_obey_42 0 rfl rfl ?_
    refine g_iload_n (v := x) cx dX0_obey_45 rfl ?_
    refine g_aload_n (v := ad 0) cx dX0_obey_46 rfl ?_
    refine g_iload_n (v := x) cx dX0_obey_47 rfl ?_
    refine g_iconst (v := 1) cx dX0_obey_48 (by decide) ?_
    refine k_calli (r0 := R 2 (i * 5 + 1)) (ws' := wCopy V cd C ++ wRing V ad R) (As := [.int x, .int 1]) (rest := [.int x, .ref (cd 1)]) cx (c_X3_ofOrder V ad R x 1 (i * 5 + 1) (rf_add (rf_mul hx rfl) (nl 1)) (by omega)) ml_X0_27 dX0_obey_49 [4, 5, 6, 7, 8, 9] rfl rfl [ad 0, ad 1, ad 2, ad 3, ad 4, ad 5] rfl rfl rfl 0 3 rfl rfl rfl rfl rfl (Nat.le_of_ble_eq_true rfl) ⟨Nat.le_of_ble_eq_true rfl, Nat.le_of_ble_eq_true rfl⟩ ⟨Nat.le_refl _, Nat.le_refl _⟩ ?_
    refine g_bipush (v := 98) cx dX0_obey_52 (by decide) ?_
    refine g_icmp_ne cx 69 dX0_obey_54 (by decide) (fun hw9 => ?_) (fun hw9 => ?_)
    · skip
      refine g_iload (v := R 0 (d * 9 + (1 + t))) cx dX0_obey_69 rfl ?_
      refine g_iast (ws' := wCopy V cd (u2 C 0 i (R 0 (d * 9 + (1 + t)))) ++ wRing V ad R) cx dX0_obey_71 1 i rfl (hx) (by omega) (by first | decide | omega) rfl ?_
      refine g_aload_n (v := cd 0) cx dX0_obey_72 rfl ?_
      refine g_get (v := .ref (cd 2)) cx fk_X0_15 dX0_obey_73 0 rfl rfl ?_
      refine g_iload_n (v := x) cx dX0_obey_76 rfl ?_
      refine g_dup2 cx dX0_obey_77 rfl rfl ?_
      refine g_iald cx dX0_obey_78 2 i rfl (hx) (by omega) (by first | decide | omega) ?_
      refine g_top (y := C 1 i) (rfl) ?_
      refine g_iconst (v := 1) cx dX0_obey_79 (by decide) ?_
      refine g_iadd cx dX0_obey_80 ?_
      refine g_iast (ws' := wCopy V cd (u2 (u2 C 0 i (R 0 (d * 9 + (1 + t)))) 1 i ((C 1 i) + 1)) ++ wRing V ad R) cx dX0_obey_81 2 i rfl (hx) (by omega) (by first | decide | omega) rfl ?_
      exact hret _ _ _ dX0_obey_82 (by rw [oC, oR, if_pos hw1, if_pos hw1, if_neg hw9])
    · skip
      refine g_aload_n (v := cd 0) cx dX0_obey_57 rfl ?_
      refine g_get (v := .ref (cd 1)) cx fk_X0_9 dX0_obey_58 0 rfl rfl ?_
      refine g_iload_n (v := x) cx dX0_obey_61 rfl ?_
      refine g_iald cx dX0_obey_62 1 i rfl (hx) (by omega) (by first | decide | omega) ?_
      refine g_iload (v := R 0 (d * 9 + (1 + t))) cx dX0_obey_63 rfl ?_
      refine g_ior cx dX0_obey_65 ?_
      refine g_goto cx 71 dX0_obey_66 (by decide) ?_
      refine g_iast (ws' := wCopy V cd (u2 C 0 i ((C 0 i) ||| (R 0 (d * 9 + (1 + t))))) ++ wRing V ad R) cx dX0_obey_71 1 i rfl (hx) (by omega) (by first | decide | omega) rfl ?_
      refine g_aload_n (v := cd 0) cx dX0_obey_72 rfl ?_
      refine g_get (v := .ref (cd 2)) cx fk_X0_15 dX0_obey_73 0 rfl rfl ?_
      refine g_iload_n (v := x) cx dX0_obey_76 rfl ?_
      refine g_dup2 cx dX0_obey_77 rfl rfl ?_
      refine g_iald cx dX0_obey_78 2 i rfl (hx) (by omega) (by first | decide | omega) ?_
      refine g_top (y := C 1 i) (rfl) ?_
      refine g_iconst (v := 1) cx dX0_obey_79 (by decide) ?_
      refine g_iadd cx dX0_obey_80 ?_
      refine g_iast (ws' := wCopy V cd (u2 (u2 C 0 i ((C 0 i) ||| (R 0 (d * 9 + (1 + t))))) 1 i ((C 1 i) + 1)) ++ wRing V ad R) cx dX0_obey_81 2 i rfl (hx) (by omega) (by first | decide | omega) rfl ?_
      exact hret _ _ _ dX0_obey_82 (by rw [oC, oR, if_pos hw1, if_pos hw1, if_pos hw9])
def rm_X4_pass : Room := { frames := 2, cells := 0, slots := 0, locals := 50 }
set_option maxRecDepth 100000 in
set_option maxHeartbeats 4000000 in
theorem c_X4_pass (V : VT) (sa ca cb : Nat) (sv : Int32) (cd : Nat → Nat) (C : S2) (ad : Nat → Nat) (R : S2) (y : Int32) (d : Nat) (hy : y = nI d) (hd : d < 6) (o : Nat) (ho : R 5 1 = nI o) (ho4 : o ≤ 4) (hat : okAt R o) : CV V yX4_pass cX4_pass 5 rm_X4_pass [.ref sa, .ref (ad 0), .int y, .ref (cd 0)] (wSd sa ca cb sv ++ wCopy V cd C ++ wRing V ad R) (fun w_ => w_ = wSd sa ca cb ((pAll o d (C, R, sv)).2.2) ++ wCopy V cd ((pAll o d (C, R, sv)).1) ++ wRing V ad ((pAll o d (C, R, sv)).2.1)) := by
  refine CV_intro (by decide) (Nat.le_of_ble_eq_true rfl) (fun K cx hci hret => ?_)
  show G V K 5 0 0 (wSd sa ca cb sv ++ wCopy V cd C ++ wRing V ad R) 0 [(0, .ref sa), (1, .ref (ad 0)), (2, .int y), (3, .ref (cd 0))] []
  subst hy
  refine g_iconst (v := 0) cx dX4_pass_0 (by decide) ?_
  refine g_istore (lv' := [(0, .ref sa), (1, .ref (ad 0)), (2, .int (nI d)), (3, .ref (cd 0)), (4, .int 0)]) cx dX4_pass_1 (by decide) rfl ?_
  refine rf_dn (P := fun i1 => G V K 5 0 0 (wSd sa ca cb ((pAll i1 d (C, R, sv)).2.2) ++ wCopy V cd ((pAll i1 d (C, R, sv)).1) ++ wRing V ad ((pAll i1 d (C, R, sv)).2.1)) 3 [(0, .ref sa), (1, .ref (ad 0)), (2, .int (nI d)), (3, .ref (cd 0)), (4, .int (nI i1))] []) (o) (fun i1 hi1 ihi1 => ?_) ?_
  · skip
    have e1 : pAll (i1 + 1) d (C, R, sv) = pStep d i1 (pAll i1 d (C, R, sv)) := rfl
    rw [e1] at ihi1
    have hk := pAll_keep (o := i1) (d := d) (s := (C, R, sv))
    generalize pAll i1 d (C, R, sv) = s at ihi1 hk ⊢
    obtain ⟨C1, R1, v1⟩ := s
    have hk : rKeep R R1 := hk
    have ho1 : R1 5 1 = nI o := by rw [hk 5 (by decide)]; exact ho
    have hat := hat.keep hk
    clear e1
    refine g_iload (v := nI i1) cx dX4_pass_3 rfl ?_
    refine g_aload_n (v := ad 0) cx dX4_pass_5 rfl ?_
    refine g_get (v := .int (R1 5 1)) cx fk_X4_52 dX4_pass_6 5 rfl rfl ?_
    refine g_icmp_ge cx 49 dX4_pass_9 (by decide) (fun hw1 => absurd hw1 (rf_geMN rfl ho1 (by omega) (by omega) (by omega))) (fun hw1 => ?_)
    refine g_aload_n (v := cd 0) cx dX4_pass_12 rfl ?_
    refine g_aload_n (v := ad 0) cx dX4_pass_13 rfl ?_
    refine g_iload (v := nI i1) cx dX4_pass_14 rfl ?_
    refine g_iload_n (v := nI d) cx dX4_pass_16 rfl ?_
    refine k_calli (r0 := bI (cFor C1 R1 i1 d)) (ws' := wSd sa ca cb v1 ++ wCopy V cd (cPl C1 R1 i1) ++ wRing V ad R1) (As := [.ref (ad 0), .int (nI i1), .int (nI d)]) (rest := []) cx (c_X0_comesFor V cd C1 ad R1 (nI i1) (nI d) i1 d rfl rfl (by omega) (by omega)) ml_X4_106 dX4_pass_17 [1, 2, 3, 4, 5, 6, 7, 8, 9, 10] rfl rfl [cd 0, cd 1, cd 2, cd 3, ad 0, ad 1, ad 2, ad 3, ad 4, ad 5] rfl rfl rfl 0 0 rfl rfl rfl rfl rfl (Nat.le_of_ble_eq_true rfl) ⟨Nat.le_of_ble_eq_true rfl, Nat.le_of_ble_eq_true rfl⟩ ⟨Nat.le_refl _, Nat.le_refl _⟩ ?_
    refine g_if_eq_b cx 43 dX4_pass_20 (by decide) (fun hw2 => ?_) (fun hw2 => ?_)
    · skip
      refine g_iinc (x := nI i1) (v := nI (i1 + 1)) (lv' := [(0, .ref sa), (1, .ref (ad 0)), (2, .int (nI d)), (3, .ref (cd 0)), (4, .int (nI (i1 + 1)))]) cx dX4_pass_43 rfl (by decide) (nI_add _ _) rfl ?_
      refine g_goto cx 3 dX4_pass_46 (by decide) ?_
      rw [pStep, if_neg hw2] at ihi1
      exact ihi1
    · skip
      refine g_aload_n (v := sa) cx dX4_pass_23 rfl ?_
      refine g_dup cx dX4_pass_24 rfl ?_
      refine g_get (v := .int v1) cx fk_X4_21 dX4_pass_25 0 rfl rfl ?_
      refine g_iconst (v := 1) cx dX4_pass_28 (by decide) ?_
      refine g_iload_n (v := nI d) cx dX4_pass_29 rfl ?_
      refine g_ishl cx dX4_pass_30 ?_
      refine g_ior cx dX4_pass_31 ?_
      refine g_put (ws' := wSd sa ca cb (v1 ||| ((1 : Int32) <<< ((nI d) &&& 31))) ++ wCopy V cd (cPl C1 R1 i1) ++ wRing V ad R1) cx fk_X4_21 dX4_pass_32 0 rfl (rfl) (rfl) (Nat.le_of_ble_eq_true rfl) rfl ?_
      refine g_aload_n (v := cd 0) cx dX4_pass_35 rfl ?_
      refine g_aload_n (v := ad 0) cx dX4_pass_36 rfl ?_
      refine g_iload (v := nI i1) cx dX4_pass_37 rfl ?_
      refine g_iload_n (v := nI d) cx dX4_pass_39 rfl ?_
      refine k_callv (ws' := wSd sa ca cb (v1 ||| ((1 : Int32) <<< ((nI d) &&& 31))) ++ wCopy V cd (oC (cPl C1 R1 i1) R1 i1 d (atn R1 i1)) ++ wRing V ad (oR (cPl C1 R1 i1) R1 i1 d (atn R1 i1))) (As := [.ref (ad 0), .int (nI i1), .int (nI d)]) (rest := []) cx (c_X0_obey V cd (cPl C1 R1 i1) ad R1 (nI i1) (nI d) i1 d rfl rfl (by omega) (by omega) (atn R1 i1) (hat i1 hi1).1 (hat i1 hi1).2) ml_X4_110 dX4_pass_40 [1, 2, 3, 4, 5, 6, 7, 8, 9, 10] rfl rfl [cd 0, cd 1, cd 2, cd 3, ad 0, ad 1, ad 2, ad 3, ad 4, ad 5] rfl rfl rfl 0 0 rfl rfl rfl rfl rfl (Nat.le_of_ble_eq_true rfl) ⟨Nat.le_of_ble_eq_true rfl, Nat.le_of_ble_eq_true rfl⟩ ⟨Nat.le_refl _, Nat.le_refl _⟩ ?_
      refine g_iinc (x := nI i1) (v := nI (i1 + 1)) (lv' := [(0, .ref sa), (1, .ref (ad 0)), (2, .int (nI d)), (3, .ref (cd 0)), (4, .int (nI (i1 + 1)))]) cx dX4_pass_43 rfl (by decide) (nI_add _ _) rfl ?_
      refine g_goto cx 3 dX4_pass_46 (by decide) ?_
      rw [pStep, if_pos hw2] at ihi1
      exact ihi1
  · skip
    have ho2 : (pAll o d (C, R, sv)).2.1 5 1 = nI o := by rw [pAll_keep 5 (by decide)]; exact ho
    refine g_iload (v := nI o) cx dX4_pass_3 rfl ?_
    refine g_aload_n (v := ad 0) cx dX4_pass_5 rfl ?_
    refine g_get (v := .int (((pAll o d (C, R, sv)).2.1) 5 1)) cx fk_X4_52 dX4_pass_6 5 rfl rfl ?_
    refine g_icmp_ge cx 49 dX4_pass_9 (by decide) (fun hw3 => ?_) (fun hw3 => absurd (rf_geMP rfl ho2 (by omega) (by omega) (by omega)) hw3)
    exact hret _ _ _ dX4_pass_49 (rfl)
