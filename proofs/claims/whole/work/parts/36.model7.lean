abbrev M7 : Type := M5 × (Nat → Int32) × (Nat → Int32)
def mFF (n o : Nat) (c : Int32) (t : M7) : M7 := ((brg (brg t.1.1 t.2.2 0 0 99) (mSnd n o c t.1.1 t.1.2.1 t.1.2.2.1 t.1.2.2.2.1 t.1.2.2.2.2).1 0 0 99, (mSnd n o c t.1.1 t.1.2.1 t.1.2.2.1 t.1.2.2.2.1 t.1.2.2.2.2).2), mFct (brg (brg t.1.1 t.2.2 0 0 99) (mSnd n o c t.1.1 t.1.2.1 t.1.2.2.1 t.1.2.2.2.1 t.1.2.2.2.2).1 0 0 99) (mSnd n o c t.1.1 t.1.2.1 t.1.2.2.1 t.1.2.2.2.1 t.1.2.2.2.2).2.2.1 t.2.1 c n o 6, brg t.1.1 t.2.2 0 0 99)
def mPo (q f o i : Nat) (s : M5) : M5 := fl (fun j s => mDr q o (f + j) s) i s
def rm_X9_passThrough : Room := { frames := 1, cells := 0, slots := 0, locals := 31 }
set_option maxRecDepth 100000 in
set_option maxHeartbeats 4000000 in
theorem c_X9_passThrough (V : VT) (ad : Nat → Nat) (nw rw ps im kp tx sw sv da co pl me fa ao al : Nat → Int32) (de le ax ta ts tv se il : Int32) (xq : Int32) (xf : Int32) (b : Int32) (q : Nat) (f : Nat) (hq : xq = nI q) (hf : xf = nI f) (o : Nat) (ho : nw 3 = nI o) (ho4 : o ≤ 4) (l : Nat) (hb : b = nI (f + l) - 1) (hfl : f + l ≤ 6) (hq1 : q ≤ 1) (hat : okAM nw o) : CV V yX9_passThrough cX9_passThrough 6 rm_X9_passThrough [.ref (ad 0), .int xq, .int xf, .int b] (wMo V ad nw rw ps im kp tx sw sv da co pl me fa ao al de le ax ta ts tv se il) (fun w_ => w_ = wMo V ad ((mPass q f l o (nw, da, co, pl, me)).1) rw ps im kp tx sw sv ((mPass q f l o (nw, da, co, pl, me)).2.1) ((mPass q f l o (nw, da, co, pl, me)).2.2.1) ((mPass q f l o (nw, da, co, pl, me)).2.2.2.1) ((mPass q f l o (nw, da, co, pl, me)).2.2.2.2) fa ao al de le ax ta ts tv se il) := by
  refine CV_intro (by decide) (Nat.le_of_ble_eq_true rfl) (fun K cx hci hret => ?_)
  show G V K 6 0 0 (wMo V ad nw rw ps im kp tx sw sv da co pl me fa ao al de le ax ta ts tv se il) 0 [(0, .ref (ad 0)), (1, .int xq), (2, .int xf), (3, .int b)] []
  subst hq
  subst hf
  refine g_iconst (v := 0) cx dX9_passThrough_0 (by decide) ?_
  refine g_istore (lv' := [(0, .ref (ad 0)), (1, .int (nI q)), (2, .int (nI f)), (3, .int b), (4, .int 0)]) cx dX9_passThrough_1 (by decide) rfl ?_
  refine rf_dn (P := fun k => G V K 6 0 0 (wMo V ad nw rw ps im kp tx sw sv da co (mPl nw pl k) me fa ao al de le ax ta ts tv se il) 3 [(0, .ref (ad 0)), (1, .int (nI q)), (2, .int (nI f)), (3, .int b), (4, .int (nI k))] []) (o) (fun k hk ihk => ?_) ?_
  · skip
    have hko : k < o := hk
    refine g_iload (v := nI k) cx dX9_passThrough_3 rfl ?_
    refine g_aload_n (v := ad 0) cx dX9_passThrough_5 rfl ?_
    refine g_get (v := .ref (ad 1)) cx fk_X9_7 dX9_passThrough_6 0 rfl rfl ?_
    refine g_iconst (v := 3) cx dX9_passThrough_9 (by decide) ?_
    refine g_iald cx dX9_passThrough_10 1 3 rfl (nl 3) (by omega) (by first | decide | omega) ?_
    refine g_top (y := nw 3) (rfl) ?_
    refine g_icmp_ge cx 41 dX9_passThrough_11 (by decide) (fun hw1 => absurd hw1 (rf_geMN rfl ho (by omega) (by omega) (by omega))) (fun hw1 => ?_)
    refine g_aload_n (v := ad 0) cx dX9_passThrough_14 rfl ?_
    refine g_get (v := .ref (ad 11)) cx fk_X9_41 dX9_passThrough_15 0 rfl rfl ?_
    refine g_iload (v := nI k) cx dX9_passThrough_18 rfl ?_
    refine g_aload_n (v := ad 0) cx dX9_passThrough_20 rfl ?_
    refine g_get (v := .ref (ad 1)) cx fk_X9_7 dX9_passThrough_21 0 rfl rfl ?_
    refine g_bipush (v := 71) cx dX9_passThrough_24 (by decide) ?_
    refine g_iconst (v := 5) cx dX9_passThrough_26 (by decide) ?_
    refine g_iload (v := nI k) cx dX9_passThrough_27 rfl ?_
    refine g_imul cx dX9_passThrough_29 ?_
    refine g_iadd cx dX9_passThrough_30 ?_
    refine g_iconst (v := 2) cx dX9_passThrough_31 (by decide) ?_
    refine g_iadd cx dX9_passThrough_32 ?_
    refine g_iald cx dX9_passThrough_33 1 ((71 + (5 * k)) + 2) rfl (rf_add (rf_add (nl 71) (rf_mul (nl 5) rfl)) (nl 2)) (by omega) (by first | decide | omega) ?_
    refine g_top (y := nw ((71 + (5 * k)) + 2)) (rfl) ?_
    refine g_iast (ws' := wMo V ad nw rw ps im kp tx sw sv da co (upd (mPl nw pl k) k (nw ((71 + (5 * k)) + 2))) me fa ao al de le ax ta ts tv se il) cx dX9_passThrough_34 11 k rfl (rfl) (by omega) (by first | decide | omega) rfl ?_
    refine g_iinc (x := nI k) (v := nI (k + 1)) (lv' := [(0, .ref (ad 0)), (1, .int (nI q)), (2, .int (nI f)), (3, .int b), (4, .int (nI (k + 1)))]) cx dX9_passThrough_35 rfl (by decide) (nI_add _ _) rfl ?_
    refine g_goto cx 3 dX9_passThrough_38 (by decide) ?_
    exact ihk
  · skip
    refine g_iload (v := nI o) cx dX9_passThrough_3 rfl ?_
    refine g_aload_n (v := ad 0) cx dX9_passThrough_5 rfl ?_
    refine g_get (v := .ref (ad 1)) cx fk_X9_7 dX9_passThrough_6 0 rfl rfl ?_
    refine g_iconst (v := 3) cx dX9_passThrough_9 (by decide) ?_
    refine g_iald cx dX9_passThrough_10 1 3 rfl (nl 3) (by omega) (by first | decide | omega) ?_
    refine g_top (y := nw 3) (rfl) ?_
    refine g_icmp_ge cx 41 dX9_passThrough_11 (by decide) (fun hw2 => ?_) (fun hw2 => absurd (rf_geMP rfl ho (by omega) (by omega) (by omega)) hw2)
    refine g_iload_n (v := nI f) cx dX9_passThrough_41 rfl ?_
    refine g_istore (lv' := [(0, .ref (ad 0)), (1, .int (nI q)), (2, .int (nI f)), (3, .int b), (4, .int (nI f))]) cx dX9_passThrough_42 (by decide) rfl ?_
    refine rf_dn (P := fun j => G V K 6 0 0 (wMo V ad ((mPo q f o j (nw, da, co, mPl nw pl o, me)).1) rw ps im kp tx sw sv ((mPo q f o j (nw, da, co, mPl nw pl o, me)).2.1) ((mPo q f o j (nw, da, co, mPl nw pl o, me)).2.2.1) ((mPo q f o j (nw, da, co, mPl nw pl o, me)).2.2.2.1) ((mPo q f o j (nw, da, co, mPl nw pl o, me)).2.2.2.2) fa ao al de le ax ta ts tv se il) 44 [(0, .ref (ad 0)), (1, .int (nI q)), (2, .int (nI f)), (3, .int b), (4, .int (nI (f + j)))] []) (l) (fun j hj ihj => ?_) ?_
    · skip
      have hjl : j < l := hj
      have e1 : mPo q f o (j + 1) (nw, da, co, mPl nw pl o, me) = mDr q o (f + j) (mPo q f o j (nw, da, co, mPl nw pl o, me)) := rfl
      rw [e1] at ihj
      clear e1
      have hk : mKeep nw (mPo q f o j (nw, da, co, mPl nw pl o, me)).1 := mPass_keep (s := (nw, da, co, mPl nw pl o, me)) hat j (by omega)
      generalize mPo q f o j (nw, da, co, mPl nw pl o, me) = T at ihj hk ⊢
      obtain ⟨N, D, C, P, E⟩ := T
      have hoN : N 3 = nI o := (hk 3 (Or.inl (by decide))).trans ho
      have hatN : okAM N o := hat.keep hk
      refine g_iload (v := nI (f + j)) cx dX9_passThrough_44 rfl ?_
      refine g_iload_n (v := b) cx dX9_passThrough_46 rfl ?_
      refine g_icmp_gt cx 85 dX9_passThrough_47 (by decide) (fun hw3 => absurd hw3 (by rw [hb]; exact rf_predN (by omega) (by omega) (by omega))) (fun hw3 => ?_)
      refine g_iconst (v := 0) cx dX9_passThrough_50 (by decide) ?_
      refine g_istore (lv' := [(0, .ref (ad 0)), (1, .int (nI q)), (2, .int (nI f)), (3, .int b), (4, .int (nI (f + j))), (5, .int 0)]) cx dX9_passThrough_51 (by decide) rfl ?_
      refine rf_dn (P := fun i => G V K 6 0 0 (wMo V ad ((fl (mH q (f + j)) i (N, D, C, P, E)).1) rw ps im kp tx sw sv ((fl (mH q (f + j)) i (N, D, C, P, E)).2.1) ((fl (mH q (f + j)) i (N, D, C, P, E)).2.2.1) ((fl (mH q (f + j)) i (N, D, C, P, E)).2.2.2.1) ((fl (mH q (f + j)) i (N, D, C, P, E)).2.2.2.2) fa ao al de le ax ta ts tv se il) 53 [(0, .ref (ad 0)), (1, .int (nI q)), (2, .int (nI f)), (3, .int b), (4, .int (nI (f + j))), (5, .int (nI i))] []) (o) (fun i hi ihi => ?_) ?_
      · skip
        have hio : i < o := hi
        have e1 : fl (mH q (f + j)) (i + 1) (N, D, C, P, E) = mH q (f + j) i (fl (mH q (f + j)) i (N, D, C, P, E)) := rfl
        rw [e1] at ihi
        clear e1
        have hk2 : mKeep N (fl (mH q (f + j)) i (N, D, C, P, E)).1 := mDr_keep (s := (N, D, C, P, E)) (by omega) hatN i (by omega)
        generalize fl (mH q (f + j)) i (N, D, C, P, E) = T at ihi hk2 ⊢
        obtain ⟨N1, D1, C1, P1, E1⟩ := T
        have hoN1 : N1 3 = nI o := (hk2 3 (Or.inl (by decide))).trans hoN
        have hatN1 : okAM N1 o := hatN.keep hk2
        refine g_iload (v := nI i) cx dX9_passThrough_53 rfl ?_
        refine g_aload_n (v := ad 0) cx dX9_passThrough_55 rfl ?_
        refine g_get (v := .ref (ad 1)) cx fk_X9_7 dX9_passThrough_56 0 rfl rfl ?_
        refine g_iconst (v := 3) cx dX9_passThrough_59 (by decide) ?_
        refine g_iald cx dX9_passThrough_60 1 3 rfl (nl 3) (by omega) (by first | decide | omega) ?_
        refine g_top (y := N1 3) (rfl) ?_
        refine g_icmp_ge cx 79 dX9_passThrough_61 (by decide) (fun hw4 => absurd hw4 (rf_geMN rfl hoN1 (by omega) (by omega) (by omega))) (fun hw4 => ?_)
        refine g_aload_n (v := ad 0) cx dX9_passThrough_64 rfl ?_
        refine g_iload_n (v := nI q) cx dX9_passThrough_65 rfl ?_
        refine g_iload (v := nI i) cx dX9_passThrough_66 rfl ?_
        refine g_iload (v := nI (f + j)) cx dX9_passThrough_68 rfl ?_
        refine w_callv (ws' := wMo V ad ((mH q (f + j) i (N1, D1, C1, P1, E1)).1) rw ps im kp tx sw sv ((mH q (f + j) i (N1, D1, C1, P1, E1)).2.1) ((mH q (f + j) i (N1, D1, C1, P1, E1)).2.2.1) ((mH q (f + j) i (N1, D1, C1, P1, E1)).2.2.2.1) ((mH q (f + j) i (N1, D1, C1, P1, E1)).2.2.2.2) fa ao al de le ax ta ts tv se il) (As := [.int (nI q), .int (nI i), .int (nI (f + j))]) (rest := []) cx (c_X9_handle V ad N1 rw ps im kp tx sw sv D1 C1 P1 E1 fa ao al de le ax ta ts tv se il (nI q) (nI i) (nI (f + j)) q i (f + j) rfl rfl rfl (by omega) (by omega) (by omega) ((hatN1 i (by omega)).1) ((hatN1 i (by omega)).2)) ml_X9_141 dX9_passThrough_70 (q0 := 0) rfl rfl rfl rfl rfl (Nat.le_of_ble_eq_true rfl) ⟨Nat.le_of_ble_eq_true rfl, Nat.le_of_ble_eq_true rfl⟩ ⟨Nat.le_refl _, Nat.le_refl _⟩ ?_
        refine g_iinc (x := nI i) (v := nI (i + 1)) (lv' := [(0, .ref (ad 0)), (1, .int (nI q)), (2, .int (nI f)), (3, .int b), (4, .int (nI (f + j))), (5, .int (nI (i + 1)))]) cx dX9_passThrough_73 rfl (by decide) (nI_add _ _) rfl ?_
        refine g_goto cx 53 dX9_passThrough_76 (by decide) ?_
        exact ihi
      · skip
        have hoX : (fl (mH q (f + j)) o (N, D, C, P, E)).1 3 = nI o := (mDr_keep (s := (N, D, C, P, E)) (by omega) hatN o (Nat.le_refl o) 3 (Or.inl (by decide))).trans hoN
        refine g_iload (v := nI o) cx dX9_passThrough_53 rfl ?_
        refine g_aload_n (v := ad 0) cx dX9_passThrough_55 rfl ?_
        refine g_get (v := .ref (ad 1)) cx fk_X9_7 dX9_passThrough_56 0 rfl rfl ?_
        refine g_iconst (v := 3) cx dX9_passThrough_59 (by decide) ?_
        refine g_iald cx dX9_passThrough_60 1 3 rfl (nl 3) (by omega) (by first | decide | omega) ?_
        refine g_top (y := ((fl (mH q (f + j)) o (N, D, C, P, E)).1) 3) (rfl) ?_
        refine g_icmp_ge cx 79 dX9_passThrough_61 (by decide) (fun hw5 => ?_) (fun hw5 => absurd (rf_geMP rfl hoX (by omega) (by omega) (by omega)) hw5)
        refine g_iinc (x := nI (f + j)) (v := nI ((f + j) + 1)) (lv' := [(0, .ref (ad 0)), (1, .int (nI q)), (2, .int (nI f)), (3, .int b), (4, .int (nI ((f + j) + 1))), (5, .int (nI o))]) cx dX9_passThrough_79 rfl (by decide) (nI_add _ _) rfl ?_
        refine g_goto cx 44 dX9_passThrough_82 (by decide) ?_
        refine g_lvk (lv' := [(0, .ref (ad 0)), (1, .int (nI q)), (2, .int (nI f)), (3, .int b), (4, .int (nI ((f + j) + 1)))]) [0, 1, 2, 3, 4] rfl ?_
        exact ihj
    · skip
      refine g_iload (v := nI (f + l)) cx dX9_passThrough_44 rfl ?_
      refine g_iload_n (v := b) cx dX9_passThrough_46 rfl ?_
      refine g_icmp_gt cx 85 dX9_passThrough_47 (by decide) (fun hw6 => ?_) (fun hw6 => absurd (by rw [hb]; exact rf_predP (by omega) (by omega) (by omega)) hw6)
      exact hret _ _ _ dX9_passThrough_85 (rfl)
def rm_X9_beginCopies : Room := { frames := 0, cells := 0, slots := 0, locals := 0 }
set_option maxRecDepth 100000 in
set_option maxHeartbeats 4000000 in
theorem c_X9_beginCopies (V : VT) (ad : Nat → Nat) (nw rw ps im kp tx sw sv da co pl me fa ao al : Nat → Int32) (de le ax ta ts tv se il : Int32) : CV V yX9_beginCopies cX9_beginCopies 2 rm_X9_beginCopies [.ref (ad 0)] (wMo V ad nw rw ps im kp tx sw sv da co pl me fa ao al de le ax ta ts tv se il) (fun w_ => w_ = wMo V ad nw rw ps im kp tx sw sv (mBd nw da 8) (mBc co 8) pl (rFill me 0 0 6) fa ao al de le ax ta ts tv se il) := by
  refine CV_intro (by decide) (Nat.le_of_ble_eq_true rfl) (fun K cx hci hret => ?_)
  show G V K 2 0 0 (wMo V ad nw rw ps im kp tx sw sv da co pl me fa ao al de le ax ta ts tv se il) 0 [(0, .ref (ad 0))] []
  refine g_iconst (v := 0) cx dX9_beginCopies_0 (by decide) ?_
  refine g_istore_n (lv' := [(0, .ref (ad 0)), (1, .int 0)]) cx dX9_beginCopies_1 (by decide) rfl ?_
  refine rf_dn (P := fun i => G V K 2 0 0 (wMo V ad nw rw ps im kp tx sw sv da co pl (rFill me 0 0 i) fa ao al de le ax ta ts tv se il) 2 [(0, .ref (ad 0)), (1, .int (nI i))] []) (6) (fun i hi ihi => ?_) ?_
  · skip
    have h6 : i < 6 := hi
    refine g_iload_n (v := nI i) cx dX9_beginCopies_2 rfl ?_
    refine g_bipush (v := 6) cx dX9_beginCopies_3 (by decide) ?_
    refine g_icmp_ge cx 21 dX9_beginCopies_5 (by decide) (fun hw1 => absurd hw1 (rf_geMN rfl (nl 6) (by omega) (by omega) (by omega))) (fun hw1 => ?_)
    refine g_aload_n (v := ad 0) cx dX9_beginCopies_8 rfl ?_
    refine g_get (v := .ref (ad 12)) cx fk_X9_44 dX9_beginCopies_9 0 rfl rfl ?_
    refine g_iload_n (v := nI i) cx dX9_beginCopies_12 rfl ?_
    refine g_iconst (v := 0) cx dX9_beginCopies_13 (by decide) ?_
    refine g_zast (ws' := wMo V ad nw rw ps im kp tx sw sv da co pl (upd (rFill me 0 0 i) (0 + i) 0) fa ao al de le ax ta ts tv se il) cx dX9_beginCopies_14 12 (0 + i) rfl (by rw [Nat.zero_add]) (by omega) (by first | decide | omega) (by decide) rfl ?_
    refine g_iinc (x := nI i) (v := nI (i + 1)) (lv' := [(0, .ref (ad 0)), (1, .int (nI (i + 1)))]) cx dX9_beginCopies_15 rfl (by decide) (nI_add _ _) rfl ?_
    refine g_goto cx 2 dX9_beginCopies_18 (by decide) ?_
    exact ihi
  · skip
    refine g_iload_n (v := nI 6) cx dX9_beginCopies_2 rfl ?_
    refine g_bipush (v := 6) cx dX9_beginCopies_3 (by decide) ?_
    refine g_icmp_ge cx 21 dX9_beginCopies_5 (by decide) (fun hw2 => ?_) (fun hw2 => absurd (rf_geMP rfl (nl 6) (by omega) (by omega) (by omega)) hw2)
    refine g_iconst (v := 0) cx dX9_beginCopies_21 (by decide) ?_
    refine g_istore_n (lv' := [(0, .ref (ad 0)), (1, .int 0)]) cx dX9_beginCopies_22 (by decide) rfl ?_
    refine rf_dn (P := fun k => G V K 2 0 0 (wMo V ad nw rw ps im kp tx sw sv (mBd nw da k) (mBc co k) pl (rFill me 0 0 6) fa ao al de le ax ta ts tv se il) 23 [(0, .ref (ad 0)), (1, .int (nI k))] []) (8) (fun k hk ihk => ?_) ?_
    · skip
      have h8 : k < 8 := hk
      have h84 : k % 4 < 4 := Nat.mod_lt _ (by decide)
      refine g_iload_n (v := nI k) cx dX9_beginCopies_23 rfl ?_
      refine g_bipush (v := 8) cx dX9_beginCopies_24 (by decide) ?_
      refine g_icmp_ge cx 63 dX9_beginCopies_26 (by decide) (fun hw3 => absurd hw3 (rf_geMN rfl (nl 8) (by omega) (by omega) (by omega))) (fun hw3 => ?_)
      refine g_aload_n (v := ad 0) cx dX9_beginCopies_29 rfl ?_
      refine g_get (v := .ref (ad 9)) cx fk_X9_35 dX9_beginCopies_30 0 rfl rfl ?_
      refine g_iload_n (v := nI k) cx dX9_beginCopies_33 rfl ?_
      refine g_aload_n (v := ad 0) cx dX9_beginCopies_34 rfl ?_
      refine g_get (v := .ref (ad 1)) cx fk_X9_7 dX9_beginCopies_35 0 rfl rfl ?_
      refine g_bipush (v := 71) cx dX9_beginCopies_38 (by decide) ?_
      refine g_iconst (v := 5) cx dX9_beginCopies_40 (by decide) ?_
      refine g_iload_n (v := nI k) cx dX9_beginCopies_41 rfl ?_
      refine g_iconst (v := 4) cx dX9_beginCopies_42 (by decide) ?_
      refine g_irem cx dX9_beginCopies_43 (by decide) ?_
      refine g_top (y := nI (k % 4)) (rem4 (by omega)) ?_
      refine g_imul cx dX9_beginCopies_44 ?_
      refine g_iadd cx dX9_beginCopies_45 ?_
      refine g_iconst (v := 4) cx dX9_beginCopies_46 (by decide) ?_
      refine g_iadd cx dX9_beginCopies_47 ?_
      refine g_iald cx dX9_beginCopies_48 1 ((71 + (5 * (k % 4))) + 4) rfl (rf_add (rf_add (nl 71) (rf_mul (nl 5) rfl)) (nl 4)) (by omega) (by first | decide | omega) ?_
      refine g_top (y := nw ((71 + (5 * (k % 4))) + 4)) (rfl) ?_
      refine g_iast (ws' := wMo V ad nw rw ps im kp tx sw sv (upd (mBd nw da k) k (nw ((71 + (5 * (k % 4))) + 4))) (mBc co k) pl (rFill me 0 0 6) fa ao al de le ax ta ts tv se il) cx dX9_beginCopies_49 9 k rfl (rfl) (by omega) (by first | decide | omega) rfl ?_
      refine g_aload_n (v := ad 0) cx dX9_beginCopies_50 rfl ?_
      refine g_get (v := .ref (ad 10)) cx fk_X9_38 dX9_beginCopies_51 0 rfl rfl ?_
      refine g_iload_n (v := nI k) cx dX9_beginCopies_54 rfl ?_
      refine g_iconst (v := 0) cx dX9_beginCopies_55 (by decide) ?_
      refine g_iast (ws' := wMo V ad nw rw ps im kp tx sw sv (upd (mBd nw da k) k (nw ((71 + (5 * (k % 4))) + 4))) (upd (mBc co k) k 0) pl (rFill me 0 0 6) fa ao al de le ax ta ts tv se il) cx dX9_beginCopies_56 10 k rfl (rfl) (by omega) (by first | decide | omega) rfl ?_
      refine g_iinc (x := nI k) (v := nI (k + 1)) (lv' := [(0, .ref (ad 0)), (1, .int (nI (k + 1)))]) cx dX9_beginCopies_57 rfl (by decide) (nI_add _ _) rfl ?_
      refine g_goto cx 23 dX9_beginCopies_60 (by decide) ?_
      exact ihk
    · skip
      refine g_iload_n (v := nI 8) cx dX9_beginCopies_23 rfl ?_
      refine g_bipush (v := 8) cx dX9_beginCopies_24 (by decide) ?_
      refine g_icmp_ge cx 63 dX9_beginCopies_26 (by decide) (fun hw4 => ?_) (fun hw4 => absurd (rf_geMP rfl (nl 8) (by omega) (by omega) (by omega)) hw4)
      exact hret _ _ _ dX9_beginCopies_63 (rfl)
def rm_X9_send : Room := { frames := 2, cells := 0, slots := 0, locals := 56 }
set_option maxRecDepth 100000 in
set_option maxHeartbeats 4000000 in
theorem c_X9_send (V : VT) (ad : Nat → Nat) (nw rw ps im kp tx sw sv da co pl me fa ao al : Nat → Int32) (de le ax ta ts tv se il : Int32) (c : Int32) (n : Nat) (hn : nw 0 = nI n) (hn6 : n ≤ 6) (o : Nat) (ho : nw 3 = nI o) (ho4 : o ≤ 4) (hc : okc nw c n) (hat : okAM nw o) : CV V yX9_send cX9_send 2 rm_X9_send [.ref (ad 0), .int c] (wMo V ad nw rw ps im kp tx sw sv da co pl me fa ao al de le ax ta ts tv se il) (fun w_ => w_ = wMo V ad ((mSnd n o c nw da co pl me).1) rw ps im kp tx sw sv ((mSnd n o c nw da co pl me).2.1) ((mSnd n o c nw da co pl me).2.2.1) ((mSnd n o c nw da co pl me).2.2.2.1) ((mSnd n o c nw da co pl me).2.2.2.2) fa ao al de le ax ta ts tv se il) := by
  refine CV_intro (by decide) (Nat.le_of_ble_eq_true rfl) (fun K cx hci hret => ?_)
  show G V K 2 0 0 (wMo V ad nw rw ps im kp tx sw sv da co pl me fa ao al de le ax ta ts tv se il) 0 [(0, .ref (ad 0)), (1, .int c)] []
  have hAn := mA_le c n
  refine g_aload_n (v := ad 0) cx dX9_send_0 rfl ?_
  refine w_callv (ws' := wMo V ad nw rw ps im kp tx sw sv (mBd nw da 8) (mBc co 8) pl (rFill me 0 0 6) fa ao al de le ax ta ts tv se il) (As := []) (rest := []) cx (c_X9_beginCopies V ad nw rw ps im kp tx sw sv da co pl me fa ao al de le ax ta ts tv se il) ml_X9_145 dX9_send_1 (q0 := 0) rfl rfl rfl rfl rfl (Nat.le_of_ble_eq_true rfl) ⟨Nat.le_of_ble_eq_true rfl, Nat.le_of_ble_eq_true rfl⟩ ⟨Nat.le_refl _, Nat.le_refl _⟩ ?_
  refine g_aload_n (v := ad 0) cx dX9_send_4 rfl ?_
  refine g_iconst (v := 0) cx dX9_send_5 (by decide) ?_
  refine g_iconst (v := 0) cx dX9_send_6 (by decide) ?_
  refine g_aload_n (v := ad 0) cx dX9_send_7 rfl ?_
  refine g_iload_n (v := c) cx dX9_send_8 rfl ?_
  refine w_calli (r0 := nI (mA c n) - 1) (ws' := wMo V ad nw rw ps im kp tx sw sv (mBd nw da 8) (mBc co 8) pl (rFill me 0 0 6) fa ao al de le ax ta ts tv se il) (As := [.int c]) (rest := [.int 0, .int 0, .ref (ad 0)]) cx (c_X9_lastOfA V ad nw rw ps im kp tx sw sv (mBd nw da 8) (mBc co 8) pl (rFill me 0 0 6) fa ao al de le ax ta ts tv se il c n hn (by omega)) ml_X9_134 dX9_send_9 (q0 := 0) rfl rfl rfl rfl rfl (Nat.le_of_ble_eq_true rfl) ⟨Nat.le_of_ble_eq_true rfl, Nat.le_of_ble_eq_true rfl⟩ ⟨Nat.le_refl _, Nat.le_refl _⟩ ?_
  refine w_callv (ws' := wMo V ad ((mPass 0 0 (mA c n) o (nw, (mBd nw da 8), (mBc co 8), pl, (rFill me 0 0 6))).1) rw ps im kp tx sw sv ((mPass 0 0 (mA c n) o (nw, (mBd nw da 8), (mBc co 8), pl, (rFill me 0 0 6))).2.1) ((mPass 0 0 (mA c n) o (nw, (mBd nw da 8), (mBc co 8), pl, (rFill me 0 0 6))).2.2.1) ((mPass 0 0 (mA c n) o (nw, (mBd nw da 8), (mBc co 8), pl, (rFill me 0 0 6))).2.2.2.1) ((mPass 0 0 (mA c n) o (nw, (mBd nw da 8), (mBc co 8), pl, (rFill me 0 0 6))).2.2.2.2) fa ao al de le ax ta ts tv se il) (As := [.int 0, .int 0, .int (nI (mA c n) - 1)]) (rest := []) cx (c_X9_passThrough V ad nw rw ps im kp tx sw sv (mBd nw da 8) (mBc co 8) pl (rFill me 0 0 6) fa ao al de le ax ta ts tv se il 0 0 (nI (mA c n) - 1) 0 0 (nl 0) (nl 0) o ho (by omega) (mA c n) (by rw [Nat.zero_add]) (by omega) (by omega) hat) ml_X9_148 dX9_send_12 (q0 := 0) rfl rfl rfl rfl rfl (Nat.le_of_ble_eq_true rfl) ⟨Nat.le_of_ble_eq_true rfl, Nat.le_of_ble_eq_true rfl⟩ ⟨Nat.le_refl _, Nat.le_refl _⟩ ?_
  have eS : mSnd n o c nw da co pl me = mSnd2 n o c (mPass 0 0 (mA c n) o (nw, mBd nw da 8, mBc co 8, pl, rFill me 0 0 6)) := rfl
  rw [eS] at hret
  clear eS
  have hk : mKeep nw (mPass 0 0 (mA c n) o (nw, mBd nw da 8, mBc co 8, pl, rFill me 0 0 6)).1 := mPass_k (s := (nw, mBd nw da 8, mBc co 8, pl, rFill me 0 0 6)) hat (by omega)
  generalize mPass 0 0 (mA c n) o (nw, mBd nw da 8, mBc co 8, pl, rFill me 0 0 6) = T at hret hk ⊢
  obtain ⟨N, D, C, P, E⟩ := T
  have hnN : N 0 = nI n := (hk 0 (Or.inl (by decide))).trans hn
  have hoN : N 3 = nI o := (hk 3 (Or.inl (by decide))).trans ho
  have hatN : okAM N o := hat.keep hk
  have hcN : okc N c n := hc.keep hk
  have hBn := mB_le N c n
  refine g_aload_n (v := ad 0) cx dX9_send_15 rfl ?_
  refine g_iconst (v := 1) cx dX9_send_16 (by decide) ?_
  refine g_aload_n (v := ad 0) cx dX9_send_17 rfl ?_
  refine g_iload_n (v := c) cx dX9_send_18 rfl ?_
  refine w_calli (r0 := nI (mB N c n)) (ws' := wMo V ad N rw ps im kp tx sw sv D C P E fa ao al de le ax ta ts tv se il) (As := [.int c]) (rest := [.int 1, .ref (ad 0)]) cx (c_X9_firstOfB V ad N rw ps im kp tx sw sv D C P E fa ao al de le ax ta ts tv se il c n hnN (by omega) hcN) ml_X9_138 dX9_send_19 (q0 := 0) rfl rfl rfl rfl rfl (Nat.le_of_ble_eq_true rfl) ⟨Nat.le_of_ble_eq_true rfl, Nat.le_of_ble_eq_true rfl⟩ ⟨Nat.le_refl _, Nat.le_refl _⟩ ?_
  refine g_aload_n (v := ad 0) cx dX9_send_22 rfl ?_
  refine g_get (v := .ref (ad 1)) cx fk_X9_7 dX9_send_23 0 rfl rfl ?_
  refine g_iconst (v := 0) cx dX9_send_26 (by decide) ?_
  refine g_iald cx dX9_send_27 1 0 rfl (nl 0) (by omega) (by first | decide | omega) ?_
  refine g_top (y := N 0) (rfl) ?_
  refine g_iconst (v := 1) cx dX9_send_28 (by decide) ?_
  refine g_isub cx dX9_send_29 ?_
  refine w_callv (ws' := wMo V ad ((mPass 1 (mB N c n) (n - mB N c n) o (N, D, C, P, E)).1) rw ps im kp tx sw sv ((mPass 1 (mB N c n) (n - mB N c n) o (N, D, C, P, E)).2.1) ((mPass 1 (mB N c n) (n - mB N c n) o (N, D, C, P, E)).2.2.1) ((mPass 1 (mB N c n) (n - mB N c n) o (N, D, C, P, E)).2.2.2.1) ((mPass 1 (mB N c n) (n - mB N c n) o (N, D, C, P, E)).2.2.2.2) fa ao al de le ax ta ts tv se il) (As := [.int 1, .int (nI (mB N c n)), .int ((N 0) - 1)]) (rest := []) cx (c_X9_passThrough V ad N rw ps im kp tx sw sv D C P E fa ao al de le ax ta ts tv se il 1 (nI (mB N c n)) ((N 0) - 1) 1 (mB N c n) (nl 1) rfl o hoN (by omega) (n - mB N c n) (by rw [hnN, show mB N c n + (n - mB N c n) = n by omega]) (by omega) (by omega) hatN) ml_X9_148 dX9_send_30 (q0 := 0) rfl rfl rfl rfl rfl (Nat.le_of_ble_eq_true rfl) ⟨Nat.le_of_ble_eq_true rfl, Nat.le_of_ble_eq_true rfl⟩ ⟨Nat.le_refl _, Nat.le_refl _⟩ ?_
  exact hret _ _ _ dX9_send_33 (rfl)
def rm_X9_countOf : Room := { frames := 0, cells := 0, slots := 0, locals := 0 }
set_option maxRecDepth 100000 in
set_option maxHeartbeats 4000000 in
theorem c_X9_countOf (V : VT) (ad : Nat → Nat) (nw rw ps im kp tx sw sv da co pl me fa ao al : Nat → Int32) (de le ax ta ts tv se il : Int32) (x : Int32) (i : Nat) (hi : x = nI i) (hi3 : i ≤ 3) (o : Nat) (ho : nw 3 = nI o) (ho4 : o ≤ 4) : CI V yX9_countOf cX9_countOf 2 .int rm_X9_countOf [.ref (ad 0), .int x] (wMo V ad nw rw ps im kp tx sw sv da co pl me fa ao al de le ax ta ts tv se il) (fun r_ w_ => r_ = mCnt nw co o i ∧ w_ = wMo V ad nw rw ps im kp tx sw sv da co pl me fa ao al de le ax ta ts tv se il) := by
  refine CI_intro (by decide) (Nat.le_of_ble_eq_true rfl) (fun K cx hret => ?_)
  show G V K 2 0 0 (wMo V ad nw rw ps im kp tx sw sv da co pl me fa ao al de le ax ta ts tv se il) 0 [(0, .ref (ad 0)), (1, .int x)] []
  refine g_iload_n (v := x) cx dX9_countOf_0 rfl ?_
  refine g_aload_n (v := ad 0) cx dX9_countOf_1 rfl ?_
  refine g_get (v := .ref (ad 1)) cx fk_X9_7 dX9_countOf_2 0 rfl rfl ?_
  refine g_iconst (v := 3) cx dX9_countOf_5 (by decide) ?_
  refine g_iald cx dX9_countOf_6 1 3 rfl (nl 3) (by omega) (by first | decide | omega) ?_
  refine g_top (y := nw 3) (rfl) ?_
  refine g_icmp_ge cx 28 dX9_countOf_7 (by decide) (fun hw1 => ?_) (fun hw1 => ?_)
  · have hw1 := rf_geP hi ho (by omega) (by omega) hw1
    refine g_iconst (v := 0) cx dX9_countOf_28 (by decide) ?_
    exact hret _ _ _ _ dX9_countOf_29 (rfl) (⟨by rw [mCnt, if_neg (by omega)], rfl⟩)
  · have hw1 := rf_geN hi ho (by omega) (by omega) hw1
    refine g_aload_n (v := ad 0) cx dX9_countOf_10 rfl ?_
    refine g_get (v := .ref (ad 10)) cx fk_X9_38 dX9_countOf_11 0 rfl rfl ?_
    refine g_iload_n (v := x) cx dX9_countOf_14 rfl ?_
    refine g_iald cx dX9_countOf_15 10 i rfl (hi) (by omega) (by first | decide | omega) ?_
    refine g_top (y := co i) (rfl) ?_
    refine g_aload_n (v := ad 0) cx dX9_countOf_16 rfl ?_
    refine g_get (v := .ref (ad 10)) cx fk_X9_38 dX9_countOf_17 0 rfl rfl ?_
    refine g_iconst (v := 4) cx dX9_countOf_20 (by decide) ?_
    refine g_iload_n (v := x) cx dX9_countOf_21 rfl ?_
    refine g_iadd cx dX9_countOf_22 ?_
    refine g_iald cx dX9_countOf_23 10 (4 + i) rfl (rf_add (nl 4) hi) (by omega) (by first | decide | omega) ?_
    refine g_top (y := co (4 + i)) (rfl) ?_
    refine g_iadd cx dX9_countOf_24 ?_
    refine g_goto cx 29 dX9_countOf_25 (by decide) ?_
    exact hret _ _ _ _ dX9_countOf_29 (rfl) (⟨by rw [mCnt, if_pos (by omega)], rfl⟩)
def rm_X9_dataOf : Room := { frames := 0, cells := 0, slots := 0, locals := 0 }
set_option maxRecDepth 100000 in
set_option maxHeartbeats 4000000 in
theorem c_X9_dataOf (V : VT) (ad : Nat → Nat) (nw rw ps im kp tx sw sv da co pl me fa ao al : Nat → Int32) (de le ax ta ts tv se il : Int32) (x : Int32) (i : Nat) (hi : x = nI i) (hi3 : i ≤ 3) : CI V yX9_dataOf cX9_dataOf 3 .int rm_X9_dataOf [.ref (ad 0), .int x] (wMo V ad nw rw ps im kp tx sw sv da co pl me fa ao al de le ax ta ts tv se il) (fun r_ w_ => r_ = mDat nw da co i ∧ w_ = wMo V ad nw rw ps im kp tx sw sv da co pl me fa ao al de le ax ta ts tv se il) := by
  refine CI_intro (by decide) (Nat.le_of_ble_eq_true rfl) (fun K cx hret => ?_)
  show G V K 3 0 0 (wMo V ad nw rw ps im kp tx sw sv da co pl me fa ao al de le ax ta ts tv se il) 0 [(0, .ref (ad 0)), (1, .int x)] []
  refine g_aload_n (v := ad 0) cx dX9_dataOf_0 rfl ?_
  refine g_get (v := .ref (ad 1)) cx fk_X9_7 dX9_dataOf_1 0 rfl rfl ?_
  refine g_bipush (v := 71) cx dX9_dataOf_4 (by decide) ?_
  refine g_iconst (v := 5) cx dX9_dataOf_6 (by decide) ?_
  refine g_iload_n (v := x) cx dX9_dataOf_7 rfl ?_
  refine g_imul cx dX9_dataOf_8 ?_
  refine g_iadd cx dX9_dataOf_9 ?_
  refine g_iald cx dX9_dataOf_10 1 (71 + (5 * i)) rfl (rf_add (nl 71) (rf_mul (nl 5) hi)) (by omega) (by first | decide | omega) ?_
  refine g_top (y := nw (71 + (5 * i))) (rfl) ?_
  refine g_bipush (v := 114) cx dX9_dataOf_11 (by decide) ?_
  refine g_icmp_ne cx 38 dX9_dataOf_13 (by decide) (fun hw1 => ?_) (fun hw1 => ?_)
  · skip
    refine g_iconst (v := 0) cx dX9_dataOf_38 (by decide) ?_
    refine g_istore_n (lv' := [(0, .ref (ad 0)), (1, .int x), (2, .int 0)]) cx dX9_dataOf_39 (by decide) rfl ?_
    refine g_iload_n (v := 0) cx dX9_dataOf_40 rfl ?_
    refine g_if_eq cx 62 dX9_dataOf_41 (by decide) (fun hw2 => ?_) (fun hw2 => absurd (by decide) hw2)
    refine g_aload_n (v := ad 0) cx dX9_dataOf_62 rfl ?_
    refine g_get (v := .ref (ad 10)) cx fk_X9_38 dX9_dataOf_63 0 rfl rfl ?_
    refine g_iconst (v := 4) cx dX9_dataOf_66 (by decide) ?_
    refine g_iload_n (v := x) cx dX9_dataOf_67 rfl ?_
    refine g_iadd cx dX9_dataOf_68 ?_
    refine g_iald cx dX9_dataOf_69 10 (4 + i) rfl (rf_add (nl 4) hi) (by omega) (by first | decide | omega) ?_
    refine g_top (y := co (4 + i)) (rfl) ?_
    refine g_if_le cx 84 dX9_dataOf_70 (by decide) (fun hw3 => ?_) (fun hw3 => ?_)
    · skip
      refine g_aload_n (v := ad 0) cx dX9_dataOf_84 rfl ?_
      refine g_get (v := .ref (ad 9)) cx fk_X9_35 dX9_dataOf_85 0 rfl rfl ?_
      refine g_iload_n (v := x) cx dX9_dataOf_88 rfl ?_
      refine g_iald cx dX9_dataOf_89 9 i rfl (hi) (by omega) (by first | decide | omega) ?_
      refine g_top (y := da i) (rfl) ?_
      exact hret _ _ _ _ dX9_dataOf_90 (rfl) (⟨by rw [mDat, if_neg (fun h => hw1 h.1), if_pos hw3], rfl⟩)
    · skip
      refine g_aload_n (v := ad 0) cx dX9_dataOf_73 rfl ?_
      refine g_get (v := .ref (ad 9)) cx fk_X9_35 dX9_dataOf_74 0 rfl rfl ?_
      refine g_iconst (v := 4) cx dX9_dataOf_77 (by decide) ?_
      refine g_iload_n (v := x) cx dX9_dataOf_78 rfl ?_
      refine g_iadd cx dX9_dataOf_79 ?_
      refine g_iald cx dX9_dataOf_80 9 (4 + i) rfl (rf_add (nl 4) hi) (by omega) (by first | decide | omega) ?_
      refine g_top (y := da (4 + i)) (rfl) ?_
      refine g_goto cx 90 dX9_dataOf_81 (by decide) ?_
      exact hret _ _ _ _ dX9_dataOf_90 (rfl) (⟨by rw [mDat, if_neg (fun h => hw1 h.1), if_neg hw3], rfl⟩)
  · skip
    refine g_aload_n (v := ad 0) cx dX9_dataOf_16 rfl ?_
    refine g_get (v := .ref (ad 1)) cx fk_X9_7 dX9_dataOf_17 0 rfl rfl ?_
    refine g_bipush (v := 71) cx dX9_dataOf_20 (by decide) ?_
    refine g_iconst (v := 5) cx dX9_dataOf_22 (by decide) ?_
    refine g_iload_n (v := x) cx dX9_dataOf_23 rfl ?_
    refine g_imul cx dX9_dataOf_24 ?_
    refine g_iadd cx dX9_dataOf_25 ?_
    refine g_iconst (v := 1) cx dX9_dataOf_26 (by decide) ?_
    refine g_iadd cx dX9_dataOf_27 ?_
    refine g_iald cx dX9_dataOf_28 1 ((71 + (5 * i)) + 1) rfl (rf_add (rf_add (nl 71) (rf_mul (nl 5) hi)) (nl 1)) (by omega) (by first | decide | omega) ?_
    refine g_top (y := nw ((71 + (5 * i)) + 1)) (rfl) ?_
    refine g_bipush (v := 98) cx dX9_dataOf_29 (by decide) ?_
    refine g_icmp_ne cx 38 dX9_dataOf_31 (by decide) (fun hw4 => ?_) (fun hw4 => ?_)
    · skip
      refine g_iconst (v := 0) cx dX9_dataOf_38 (by decide) ?_
      refine g_istore_n (lv' := [(0, .ref (ad 0)), (1, .int x), (2, .int 0)]) cx dX9_dataOf_39 (by decide) rfl ?_
      refine g_iload_n (v := 0) cx dX9_dataOf_40 rfl ?_
      refine g_if_eq cx 62 dX9_dataOf_41 (by decide) (fun hw5 => ?_) (fun hw5 => absurd (by decide) hw5)
      refine g_aload_n (v := ad 0) cx dX9_dataOf_62 rfl ?_
      refine g_get (v := .ref (ad 10)) cx fk_X9_38 dX9_dataOf_63 0 rfl rfl ?_
      refine g_iconst (v := 4) cx dX9_dataOf_66 (by decide) ?_
      refine g_iload_n (v := x) cx dX9_dataOf_67 rfl ?_
      refine g_iadd cx dX9_dataOf_68 ?_
      refine g_iald cx dX9_dataOf_69 10 (4 + i) rfl (rf_add (nl 4) hi) (by omega) (by first | decide | omega) ?_
      refine g_top (y := co (4 + i)) (rfl) ?_
      refine g_if_le cx 84 dX9_dataOf_70 (by decide) (fun hw6 => ?_) (fun hw6 => ?_)
      · skip
        refine g_aload_n (v := ad 0) cx dX9_dataOf_84 rfl ?_
        refine g_get (v := .ref (ad 9)) cx fk_X9_35 dX9_dataOf_85 0 rfl rfl ?_
        refine g_iload_n (v := x) cx dX9_dataOf_88 rfl ?_
        refine g_iald cx dX9_dataOf_89 9 i rfl (hi) (by omega) (by first | decide | omega) ?_
        refine g_top (y := da i) (rfl) ?_
        exact hret _ _ _ _ dX9_dataOf_90 (rfl) (⟨by rw [mDat, if_neg (fun h => hw4 h.2), if_pos hw6], rfl⟩)
      · skip
        refine g_aload_n (v := ad 0) cx dX9_dataOf_73 rfl ?_
        refine g_get (v := .ref (ad 9)) cx fk_X9_35 dX9_dataOf_74 0 rfl rfl ?_
        refine g_iconst (v := 4) cx dX9_dataOf_77 (by decide) ?_
        refine g_iload_n (v := x) cx dX9_dataOf_78 rfl ?_
        refine g_iadd cx dX9_dataOf_79 ?_
        refine g_iald cx dX9_dataOf_80 9 (4 + i) rfl (rf_add (nl 4) hi) (by omega) (by first | decide | omega) ?_
        refine g_top (y := da (4 + i)) (rfl) ?_
        refine g_goto cx 90 dX9_dataOf_81 (by decide) ?_
        exact hret _ _ _ _ dX9_dataOf_90 (rfl) (⟨by rw [mDat, if_neg (fun h => hw4 h.2), if_neg hw6], rfl⟩)
    · skip
      refine g_iconst (v := 1) cx dX9_dataOf_34 (by decide) ?_
      refine g_goto cx 39 dX9_dataOf_35 (by decide) ?_
      refine g_istore_n (lv' := [(0, .ref (ad 0)), (1, .int x), (2, .int 1)]) cx dX9_dataOf_39 (by decide) rfl ?_
      refine g_iload_n (v := 1) cx dX9_dataOf_40 rfl ?_
      refine g_if_eq cx 62 dX9_dataOf_41 (by decide) (fun hw7 => absurd hw7 (by decide)) (fun hw7 => ?_)
      refine g_aload_n (v := ad 0) cx dX9_dataOf_44 rfl ?_
      refine g_get (v := .ref (ad 9)) cx fk_X9_35 dX9_dataOf_45 0 rfl rfl ?_
      refine g_iload_n (v := x) cx dX9_dataOf_48 rfl ?_
      refine g_iald cx dX9_dataOf_49 9 i rfl (hi) (by omega) (by first | decide | omega) ?_
      refine g_top (y := da i) (rfl) ?_
      refine g_aload_n (v := ad 0) cx dX9_dataOf_50 rfl ?_
      refine g_get (v := .ref (ad 9)) cx fk_X9_35 dX9_dataOf_51 0 rfl rfl ?_
      refine g_iconst (v := 4) cx dX9_dataOf_54 (by decide) ?_
      refine g_iload_n (v := x) cx dX9_dataOf_55 rfl ?_
      refine g_iadd cx dX9_dataOf_56 ?_
      refine g_iald cx dX9_dataOf_57 9 (4 + i) rfl (rf_add (nl 4) hi) (by omega) (by first | decide | omega) ?_
      refine g_top (y := da (4 + i)) (rfl) ?_
      refine g_ior cx dX9_dataOf_58 ?_
      refine g_goto cx 90 dX9_dataOf_59 (by decide) ?_
      exact hret _ _ _ _ dX9_dataOf_90 (rfl) (⟨by rw [mDat, if_pos ⟨hw1, hw4⟩], rfl⟩)
def rm_X9_findFacts : Room := { frames := 3, cells := 0, slots := 0, locals := 77 }
set_option maxRecDepth 100000 in
set_option maxHeartbeats 4000000 in
theorem c_X9_findFacts (V : VT) (ad : Nat → Nat) (nw rw ps im kp tx sw sv da co pl me fa ao al : Nat → Int32) (de le ax ta ts tv se il : Int32) (c : Int32) (n : Nat) (hn : nw 0 = nI n) (hn6 : n ≤ 6) (o : Nat) (ho : nw 3 = nI o) (ho4 : o ≤ 4) (hc : okc nw c n) (hat : okAM nw o) : CV V yX9_findFacts cX9_findFacts 3 rm_X9_findFacts [.ref (ad 0), .int c] (wMo V ad nw rw ps im kp tx sw sv da co pl me fa ao al de le ax ta ts tv se il) (fun w_ => w_ = wMo V ad ((mFF n o c ((nw, da, co, pl, me), fa, ao)).1.1) rw ps im kp tx sw sv ((mFF n o c ((nw, da, co, pl, me), fa, ao)).1.2.1) ((mFF n o c ((nw, da, co, pl, me), fa, ao)).1.2.2.1) ((mFF n o c ((nw, da, co, pl, me), fa, ao)).1.2.2.2.1) ((mFF n o c ((nw, da, co, pl, me), fa, ao)).1.2.2.2.2) ((mFF n o c ((nw, da, co, pl, me), fa, ao)).2.1) ((mFF n o c ((nw, da, co, pl, me), fa, ao)).2.2) al de le ax ta ts tv se il) := by
  refine CV_intro (by decide) (Nat.le_of_ble_eq_true rfl) (fun K cx hci hret => ?_)
  show G V K 3 0 0 (wMo V ad nw rw ps im kp tx sw sv da co pl me fa ao al de le ax ta ts tv se il) 0 [(0, .ref (ad 0)), (1, .int c)] []
  have eF : mFF n o c ((nw, da, co, pl, me), fa, ao) = ((brg (brg nw ao 0 0 99) (mSnd n o c nw da co pl me).1 0 0 99, (mSnd n o c nw da co pl me).2), mFct (brg (brg nw ao 0 0 99) (mSnd n o c nw da co pl me).1 0 0 99) (mSnd n o c nw da co pl me).2.2.1 fa c n o 6, brg nw ao 0 0 99) := rfl
  rw [eF] at hret
  clear eF
  dsimp only at hret
  refine g_aload_n (v := ad 0) cx dX9_findFacts_0 rfl ?_
  refine g_get (v := .ref (ad 1)) cx fk_X9_7 dX9_findFacts_1 0 rfl rfl ?_
  refine g_iconst (v := 0) cx dX9_findFacts_4 (by decide) ?_
  refine g_aload_n (v := ad 0) cx dX9_findFacts_5 rfl ?_
  refine g_get (v := .ref (ad 14)) cx fk_X9_50 dX9_findFacts_6 0 rfl rfl ?_
  refine g_iconst (v := 0) cx dX9_findFacts_9 (by decide) ?_
  refine k_callsv (ws' := wMo V ad nw rw ps im kp tx sw sv da co pl me fa (brg nw ao 0 0 99) al de le ax ta ts tv se il) (As := [.ref (ad 1), .int 0, .ref (ad 14), .int 0]) (rest := []) cx (c_X9_bring V (ad 1) (ad 14) 99 99 nw ao 0 0 0 0 (nl 0) (nl 0) (by omega) (by omega) (by decide) (by decide)) ml_X9_59 dX9_findFacts_10 [1, 14] rfl rfl [ad 1, ad 14] rfl rfl rfl rfl rfl (Nat.le_of_ble_eq_true rfl) ⟨Nat.le_of_ble_eq_true rfl, Nat.le_of_ble_eq_true rfl⟩ ⟨Nat.le_refl _, Nat.le_refl _⟩ ?_
  refine g_aload_n (v := ad 0) cx dX9_findFacts_13 rfl ?_
  refine g_iload_n (v := c) cx dX9_findFacts_14 rfl ?_
  refine w_callv (ws' := wMo V ad ((mSnd n o c nw da co pl me).1) rw ps im kp tx sw sv ((mSnd n o c nw da co pl me).2.1) ((mSnd n o c nw da co pl me).2.2.1) ((mSnd n o c nw da co pl me).2.2.2.1) ((mSnd n o c nw da co pl me).2.2.2.2) fa (brg nw ao 0 0 99) al de le ax ta ts tv se il) (As := [.int c]) (rest := []) cx (c_X9_send V ad nw rw ps im kp tx sw sv da co pl me fa (brg nw ao 0 0 99) al de le ax ta ts tv se il c n hn (by omega) o ho (by omega) hc hat) ml_X9_151 dX9_findFacts_15 (q0 := 0) rfl rfl rfl rfl rfl (Nat.le_of_ble_eq_true rfl) ⟨Nat.le_of_ble_eq_true rfl, Nat.le_of_ble_eq_true rfl⟩ ⟨Nat.le_refl _, Nat.le_refl _⟩ ?_
  generalize mSnd n o c nw da co pl me = T at hret ⊢
  obtain ⟨N, D, C, P, E⟩ := T
  refine g_aload_n (v := ad 0) cx dX9_findFacts_18 rfl ?_
  refine g_get (v := .ref (ad 14)) cx fk_X9_50 dX9_findFacts_19 0 rfl rfl ?_
  refine g_iconst (v := 0) cx dX9_findFacts_22 (by decide) ?_
  refine g_aload_n (v := ad 0) cx dX9_findFacts_23 rfl ?_
  refine g_get (v := .ref (ad 1)) cx fk_X9_7 dX9_findFacts_24 0 rfl rfl ?_
  refine g_iconst (v := 0) cx dX9_findFacts_27 (by decide) ?_
  refine k_callsv (ws' := wMo V ad (brg (brg nw ao 0 0 99) N 0 0 99) rw ps im kp tx sw sv D C P E fa (brg nw ao 0 0 99) al de le ax ta ts tv se il) (As := [.ref (ad 14), .int 0, .ref (ad 1), .int 0]) (rest := []) cx (c_X9_bring V (ad 14) (ad 1) 99 99 (brg nw ao 0 0 99) N 0 0 0 0 (nl 0) (nl 0) (by omega) (by omega) (by decide) (by decide)) ml_X9_59 dX9_findFacts_28 [14, 1] rfl rfl [ad 14, ad 1] rfl rfl rfl rfl rfl (Nat.le_of_ble_eq_true rfl) ⟨Nat.le_of_ble_eq_true rfl, Nat.le_of_ble_eq_true rfl⟩ ⟨Nat.le_refl _, Nat.le_refl _⟩ ?_
  have hB : ∀ k, k < 99 → brg (brg nw ao 0 0 99) N 0 0 99 k = nw k := fun k hk => by rw [brg_at, if_pos (by omega), brg_at, if_pos (by omega), show 0 + (0 + (k - 0) - 0) = k by omega]
  dsimp only at hret
  generalize brg (brg nw ao 0 0 99) N 0 0 99 = M at hret hB ⊢
  have hnM : M 0 = nI n := (hB 0 (by decide)).trans hn
  have hoM : M 3 = nI o := (hB 3 (by decide)).trans ho
  have hcM : okc M c n := by unfold okc; rw [hB 1 (by decide)]; exact hc
  refine g_iconst (v := 0) cx dX9_findFacts_31 (by decide) ?_
  refine g_istore_n (lv' := [(0, .ref (ad 0)), (1, .int c), (2, .int 0)]) cx dX9_findFacts_32 (by decide) rfl ?_
  refine rf_dn (P := fun i => G V K 3 0 0 (wMo V ad M rw ps im kp tx sw sv D C P E (mFct M C fa c n o i) (brg nw ao 0 0 99) al de le ax ta ts tv se il) 33 [(0, .ref (ad 0)), (1, .int c), (2, .int (nI i))] []) (6) (fun i hi ihi => ?_) ?_
  · skip
    have h6 : i < 6 := hi
    refine g_iload_n (v := nI i) cx dX9_findFacts_33 rfl ?_
    refine g_bipush (v := 6) cx dX9_findFacts_34 (by decide) ?_
    refine g_icmp_ge cx 72 dX9_findFacts_36 (by decide) (fun hw1 => absurd hw1 (rf_geMN rfl (nl 6) (by omega) (by omega) (by omega))) (fun hw1 => ?_)
    refine g_aload_n (v := ad 0) cx dX9_findFacts_39 rfl ?_
    refine g_get (v := .ref (ad 13)) cx fk_X9_47 dX9_findFacts_40 0 rfl rfl ?_
    refine g_iload_n (v := nI i) cx dX9_findFacts_43 rfl ?_
    refine g_iload_n (v := nI i) cx dX9_findFacts_44 rfl ?_
    refine g_iconst (v := 4) cx dX9_findFacts_45 (by decide) ?_
    refine g_icmp_ge cx 57 dX9_findFacts_46 (by decide) (fun hw2 => ?_) (fun hw2 => ?_)
    · have hw2 := rf_geP rfl (nl 4) (by omega) (by omega) hw2
      refine g_aload_n (v := ad 0) cx dX9_findFacts_57 rfl ?_
      refine g_iload_n (v := nI i) cx dX9_findFacts_58 rfl ?_
      refine g_iconst (v := 4) cx dX9_findFacts_59 (by decide) ?_
      refine g_isub cx dX9_findFacts_60 ?_
      refine g_iload_n (v := c) cx dX9_findFacts_61 rfl ?_
      refine w_calli (r0 := mTime M c n (i - 4)) (ws' := wMo V ad M rw ps im kp tx sw sv D C P E (mFct M C fa c n o i) (brg nw ao 0 0 99) al de le ax ta ts tv se il) (As := [.int ((nI i) - 4), .int c]) (rest := [.int (nI i), .ref (ad 13)]) cx (c_X9_timeOf V ad M rw ps im kp tx sw sv D C P E (mFct M C fa c n o i) (brg nw ao 0 0 99) al de le ax ta ts tv se il ((nI i) - 4) c (i - 4) (rf_sub rfl (nl 4) (by omega)) n hnM (by omega) hcM (by omega)) ml_X9_158 dX9_findFacts_62 (q0 := 0) rfl rfl rfl rfl rfl (Nat.le_of_ble_eq_true rfl) ⟨Nat.le_of_ble_eq_true rfl, Nat.le_of_ble_eq_true rfl⟩ ⟨Nat.le_refl _, Nat.le_refl _⟩ ?_
      refine g_iast (ws' := wMo V ad M rw ps im kp tx sw sv D C P E (upd (mFct M C fa c n o i) i (mTime M c n (i - 4))) (brg nw ao 0 0 99) al de le ax ta ts tv se il) cx dX9_findFacts_65 13 i rfl (rfl) (by omega) (by first | decide | omega) rfl ?_
      refine g_iinc (x := nI i) (v := nI (i + 1)) (lv' := [(0, .ref (ad 0)), (1, .int c), (2, .int (nI (i + 1)))]) cx dX9_findFacts_66 rfl (by decide) (nI_add _ _) rfl ?_
      refine g_goto cx 33 dX9_findFacts_69 (by decide) ?_
      rw [show mFct M C fa c n o (i + 1) = upd (mFct M C fa c n o i) i (if i < 4 then mCnt M C o i else mTime M c n (i - 4)) from rfl, if_neg (by omega)] at ihi
      exact ihi
    · have hw2 := rf_geN rfl (nl 4) (by omega) (by omega) hw2
      refine g_aload_n (v := ad 0) cx dX9_findFacts_49 rfl ?_
      refine g_iload_n (v := nI i) cx dX9_findFacts_50 rfl ?_
      refine w_calli (r0 := mCnt M C o i) (ws' := wMo V ad M rw ps im kp tx sw sv D C P E (mFct M C fa c n o i) (brg nw ao 0 0 99) al de le ax ta ts tv se il) (As := [.int (nI i)]) (rest := [.int (nI i), .ref (ad 13)]) cx (c_X9_countOf V ad M rw ps im kp tx sw sv D C P E (mFct M C fa c n o i) (brg nw ao 0 0 99) al de le ax ta ts tv se il (nI i) i rfl (by omega) o hoM (by omega)) ml_X9_155 dX9_findFacts_51 (q0 := 0) rfl rfl rfl rfl rfl (Nat.le_of_ble_eq_true rfl) ⟨Nat.le_of_ble_eq_true rfl, Nat.le_of_ble_eq_true rfl⟩ ⟨Nat.le_refl _, Nat.le_refl _⟩ ?_
      refine g_goto cx 65 dX9_findFacts_54 (by decide) ?_
      refine g_iast (ws' := wMo V ad M rw ps im kp tx sw sv D C P E (upd (mFct M C fa c n o i) i (mCnt M C o i)) (brg nw ao 0 0 99) al de le ax ta ts tv se il) cx dX9_findFacts_65 13 i rfl (rfl) (by omega) (by first | decide | omega) rfl ?_
      refine g_iinc (x := nI i) (v := nI (i + 1)) (lv' := [(0, .ref (ad 0)), (1, .int c), (2, .int (nI (i + 1)))]) cx dX9_findFacts_66 rfl (by decide) (nI_add _ _) rfl ?_
      refine g_goto cx 33 dX9_findFacts_69 (by decide) ?_
      rw [show mFct M C fa c n o (i + 1) = upd (mFct M C fa c n o i) i (if i < 4 then mCnt M C o i else mTime M c n (i - 4)) from rfl, if_pos (by omega)] at ihi
      exact ihi
  · skip
    refine g_iload_n (v := nI 6) cx dX9_findFacts_33 rfl ?_
    refine g_bipush (v := 6) cx dX9_findFacts_34 (by decide) ?_
    refine g_icmp_ge cx 72 dX9_findFacts_36 (by decide) (fun hw3 => ?_) (fun hw3 => absurd (rf_geMP rfl (nl 6) (by omega) (by omega) (by omega)) hw3)
    exact hret _ _ _ dX9_findFacts_72 (rfl)
