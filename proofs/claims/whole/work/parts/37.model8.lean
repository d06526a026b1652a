def mTk1 (me N : Nat → Int32) (d : Nat) : Nat → Int32 := upd N (17 + 9 * d + 5) (if me d = 0 then N (17 + 9 * d + 5) + 1 else 0)
def mTk (me : Nat → Int32) (d : Nat) (N : Nat → Int32) : Nat → Int32 := if (mTk1 me N d) (17 + 9 * d + 5) < (mTk1 me N d) 2 then mTk1 me N d else if (mTk1 me N d) (17 + 9 * d + 6) = 0 then fl (fun k N => upd N (17 + 9 * d + 1 + k) 0) 4 (upd (mTk1 me N d) (17 + 9 * d + 6) 1) else mTk1 me N d
def mTick (me : Nat → Int32) (n : Nat) (N : Nat → Int32) : Nat → Int32 := fl (mTk me) n N
def mRes (da co : Nat → Int32) (o : Nat) (N : Nat → Int32) (k : Nat) : Nat → Int32 := fl (fun i N => upd (upd N (91 + 2 * i) (mCnt N co o i)) (91 + 2 * i + 1) (mDat (upd N (91 + 2 * i) (mCnt N co o i)) da co i)) k N
def mEnd (N : Nat → Int32) : Nat → Int32 := upd (upd (upd N 4 1) 8 0) 7 ((upd (upd N 4 1) 8 0) 7 + 1)
def mCy2 (n o : Nat) (s : M5) : M5 := (mTick s.2.2.2.2 n (mEnd (mRes s.2.1 s.2.2.1 o s.1 o)), s.2.1, s.2.2.1, s.2.2.2.1, s.2.2.2.2)
def mTm (n : Nat) (s : M5) : M5 := (upd (upd s.1 5 (mTime s.1 (s.1 16) n 0)) 6 (mTime (upd s.1 5 (mTime s.1 (s.1 16) n 0)) ((upd s.1 5 (mTime s.1 (s.1 16) n 0)) 16) n 1), s.2.1, s.2.2.1, s.2.2.2.1, s.2.2.2.2)
def mCyc (n o : Nat) (nw da co pl me : Nat → Int32) : M5 := mCy2 n o (if nw 8 = 1 then (upd (upd nw 5 (-9)) 6 (-9), mBd nw da 8, mBc co 8, pl, rFill me 0 0 6) else mTm n (mSnd n o (nw 16) nw da co pl me))
theorem mRes_k {da co N : Nat → Int32} {o k : Nat} (hk : k < 91) (i : Nat) : mRes da co o N i k = N k := fl_inv (σ := Nat → Int32) (fun S => S k = N k) rfl (fun i S h => by rw [pk_un (by omega), pk_un (by omega)]; exact h) i
theorem mZ_keep {N : Nat → Int32} {d : Nat} (hd : d ≤ 5) (i : Nat) (hi : i ≤ 4) : mKeep N (fl (fun k N => upd N (17 + 9 * d + 1 + k) 0) i N) := by
  induction i with
  | zero => exact mKeep.rf
  | succ i ih => exact (ih (by omega)).tr (fun k hk => by show upd _ _ _ k = _; rw [pk_un (by omega)])
theorem mTk1_keep {me N : Nat → Int32} {d : Nat} (hd : d ≤ 5) : mKeep N (mTk1 me N d) := fun k hk => by unfold mTk1; rw [pk_un (by omega)]
theorem mTk_keep {me N : Nat → Int32} {d : Nat} (hd : d ≤ 5) : mKeep N (mTk me d N) := by
  unfold mTk
  split
  · exact mTk1_keep hd
  · split
    · exact ((mTk1_keep hd).tr (fun k hk => by rw [pk_un (by omega)])).tr (mZ_keep hd 4 (Nat.le_refl 4))
    · exact mTk1_keep hd
theorem mTick_keep {me N : Nat → Int32} : ∀ i, i ≤ 6 → mKeep N (mTick me i N)
  | 0, _ => mKeep.rf
  | i + 1, h => (mTick_keep i (by omega)).tr (mTk_keep (by omega))
theorem mEnd_k {N : Nat → Int32} {k : Nat} (h4 : k ≠ 4) (h7 : k ≠ 7) (h8 : k ≠ 8) : mEnd N k = N k := by unfold mEnd; rw [pk_un h7, pk_un h8, pk_un h4]
/-- what a cycle leaves as it was -/
def mCk (nw N : Nat → Int32) : Prop := ∀ k, (k < 4 ∨ (9 ≤ k ∧ k < 17) ∨ (71 ≤ k ∧ k < 91)) → N k = nw k
theorem mCy2_k {n o : Nat} {s : M5} (hn : n ≤ 6) : mCk s.1 (mCy2 n o s).1 := fun k hk => by
  show mTick _ n _ k = _
  rw [mTick_keep n hn k (by omega), mEnd_k (by omega) (by omega) (by omega), mRes_k (by omega)]
theorem mCyc_k {n o : Nat} {nw da co pl me : Nat → Int32} (hn : n ≤ 6) (h : okAM nw o) : mCk nw (mCyc n o nw da co pl me).1 := fun k hk => by
  unfold mCyc
  rw [mCy2_k hn k hk]
  split
  · show upd (upd nw 5 (-9)) 6 (-9) k = _
    rw [pk_un (by omega), pk_un (by omega)]
  · show upd (upd _ 5 _) 6 _ k = _
    rw [pk_un (by omega), pk_un (by omega), mSnd_keep h hn k (by omega)]
def mSh (ps : Nat → Int32) (n : Nat) : Nat → Int32 := fl (fun k g => upd g k (g (k + 99))) n ps
def mNo (nw ps : Nat → Int32) (s : Nat) : Nat → Int32 := if s = 6 then brg nw (mSh ps 495) 0 495 99 else brg nw ps 0 (99 * s) 99
def rm_X9_cycleOnce : Room := { frames := 3, cells := 0, slots := 0, locals := 77 }
set_option maxRecDepth 100000 in
set_option maxHeartbeats 4000000 in
theorem c_X9_cycleOnce (V : VT) (ad : Nat → Nat) (nw rw ps im kp tx sw sv da co pl me fa ao al : Nat → Int32) (de le ax ta ts tv se il : Int32) (n : Nat) (hn : nw 0 = nI n) (hn6 : n ≤ 6) (o : Nat) (ho : nw 3 = nI o) (ho4 : o ≤ 4) (hc : okc nw (nw 16) n) (hat : okAM nw o) : CV V yX9_cycleOnce cX9_cycleOnce 4 rm_X9_cycleOnce [.ref (ad 0)] (wMo V ad nw rw ps im kp tx sw sv da co pl me fa ao al de le ax ta ts tv se il) (fun w_ => w_ = wMo V ad ((mCyc n o nw da co pl me).1) rw ps im kp tx sw sv ((mCyc n o nw da co pl me).2.1) ((mCyc n o nw da co pl me).2.2.1) ((mCyc n o nw da co pl me).2.2.2.1) ((mCyc n o nw da co pl me).2.2.2.2) fa ao al de le ax ta ts tv se il) := by
  refine CV_intro (by decide) (Nat.le_of_ble_eq_true rfl) (fun K cx hci hret => ?_)
  show G V K 4 0 0 (wMo V ad nw rw ps im kp tx sw sv da co pl me fa ao al de le ax ta ts tv se il) 0 [(0, .ref (ad 0))] []
  refine g_aload_n (v := ad 0) cx dX9_cycleOnce_0 rfl ?_
  refine g_get (v := .ref (ad 1)) cx fk_X9_7 dX9_cycleOnce_1 0 rfl rfl ?_
  refine g_bipush (v := 8) cx dX9_cycleOnce_4 (by decide) ?_
  refine g_iald cx dX9_cycleOnce_6 1 8 rfl (nl 8) (by omega) (by first | decide | omega) ?_
  refine g_top (y := nw 8) (rfl) ?_
  refine g_iconst (v := 1) cx dX9_cycleOnce_7 (by decide) ?_
  refine g_icmp_ne cx 35 dX9_cycleOnce_8 (by decide) (fun hw1 => ?_) (fun hw1 => ?_)
  · skip
    refine g_aload_n (v := ad 0) cx dX9_cycleOnce_35 rfl ?_
    refine g_aload_n (v := ad 0) cx dX9_cycleOnce_36 rfl ?_
    refine g_get (v := .ref (ad 1)) cx fk_X9_7 dX9_cycleOnce_37 0 rfl rfl ?_
    refine g_bipush (v := 16) cx dX9_cycleOnce_40 (by decide) ?_
    refine g_iald cx dX9_cycleOnce_42 1 16 rfl (nl 16) (by omega) (by first | decide | omega) ?_
    refine g_top (y := nw 16) (rfl) ?_
    refine w_callv (ws' := wMo V ad ((mSnd n o (nw 16) nw da co pl me).1) rw ps im kp tx sw sv ((mSnd n o (nw 16) nw da co pl me).2.1) ((mSnd n o (nw 16) nw da co pl me).2.2.1) ((mSnd n o (nw 16) nw da co pl me).2.2.2.1) ((mSnd n o (nw 16) nw da co pl me).2.2.2.2) fa ao al de le ax ta ts tv se il) (As := [.int (nw 16)]) (rest := []) cx (c_X9_send V ad nw rw ps im kp tx sw sv da co pl me fa ao al de le ax ta ts tv se il (nw 16) n hn (by omega) o ho (by omega) hc hat) ml_X9_151 dX9_cycleOnce_43 (q0 := 0) rfl rfl rfl rfl rfl (Nat.le_of_ble_eq_true rfl) ⟨Nat.le_of_ble_eq_true rfl, Nat.le_of_ble_eq_true rfl⟩ ⟨Nat.le_refl _, Nat.le_refl _⟩ ?_
    have eS : mCyc n o nw da co pl me = mCy2 n o (mTm n (mSnd n o (nw 16) nw da co pl me)) := by rw [mCyc, if_neg hw1]
    rw [eS] at hret
    clear eS
    have hk : mKeep nw (mSnd n o (nw 16) nw da co pl me).1 := mSnd_keep hat hn6
    generalize mSnd n o (nw 16) nw da co pl me = T at hret hk ⊢
    obtain ⟨N, D, C, P, E⟩ := T
    have hnN : N 0 = nI n := (hk 0 (Or.inl (by decide))).trans hn
    have hoN : N 3 = nI o := (hk 3 (Or.inl (by decide))).trans ho
    have hcN : okc N (N 16) n := by have h16 : N 16 = nw 16 := hk 16 (Or.inl (by decide)); rw [h16]; exact hc.keep hk
    have eT : mTm n (N, D, C, P, E) = (upd (upd N 5 (mTime N (N 16) n 0)) 6 (mTime (upd N 5 (mTime N (N 16) n 0)) ((upd N 5 (mTime N (N 16) n 0)) 16) n 1), D, C, P, E) := rfl
    rw [eT] at hret
    clear eT
    refine g_aload_n (v := ad 0) cx dX9_cycleOnce_46 rfl ?_
    refine g_get (v := .ref (ad 1)) cx fk_X9_7 dX9_cycleOnce_47 0 rfl rfl ?_
    refine g_iconst (v := 5) cx dX9_cycleOnce_50 (by decide) ?_
    refine g_aload_n (v := ad 0) cx dX9_cycleOnce_51 rfl ?_
    refine g_iconst (v := 0) cx dX9_cycleOnce_52 (by decide) ?_
    refine g_aload_n (v := ad 0) cx dX9_cycleOnce_53 rfl ?_
    refine g_get (v := .ref (ad 1)) cx fk_X9_7 dX9_cycleOnce_54 0 rfl rfl ?_
    refine g_bipush (v := 16) cx dX9_cycleOnce_57 (by decide) ?_
    refine g_iald cx dX9_cycleOnce_59 1 16 rfl (nl 16) (by omega) (by first | decide | omega) ?_
    refine g_top (y := N 16) (rfl) ?_
    refine w_calli (r0 := mTime N (N 16) n 0) (ws' := wMo V ad N rw ps im kp tx sw sv D C P E fa ao al de le ax ta ts tv se il) (As := [.int 0, .int (N 16)]) (rest := [.int 5, .ref (ad 1)]) cx (c_X9_timeOf V ad N rw ps im kp tx sw sv D C P E fa ao al de le ax ta ts tv se il 0 (N 16) 0 (nl 0) n hnN (by omega) hcN (by omega)) ml_X9_158 dX9_cycleOnce_60 (q0 := 0) rfl rfl rfl rfl rfl (Nat.le_of_ble_eq_true rfl) ⟨Nat.le_of_ble_eq_true rfl, Nat.le_of_ble_eq_true rfl⟩ ⟨Nat.le_refl _, Nat.le_refl _⟩ ?_
    refine g_iast (ws' := wMo V ad (upd N 5 (mTime N (N 16) n 0)) rw ps im kp tx sw sv D C P E fa ao al de le ax ta ts tv se il) cx dX9_cycleOnce_63 1 5 rfl (nl 5) (by omega) (by first | decide | omega) rfl ?_
    have hk5 : ∀ k, k ≠ 5 → (upd N 5 (mTime N (N 16) n 0)) k = N k := fun k h => by rw [pk_un h]
    generalize upd N 5 (mTime N (N 16) n 0) = N1 at hret hk5 ⊢
    have hnN1 : N1 0 = nI n := (hk5 0 (by decide)).trans hnN
    have hoN1 : N1 3 = nI o := (hk5 3 (by decide)).trans hoN
    have hcN1 : okc N1 (N1 16) n := by unfold okc; rw [hk5 1 (by decide), hk5 16 (by decide)]; exact hcN
    refine g_aload_n (v := ad 0) cx dX9_cycleOnce_64 rfl ?_
    refine g_get (v := .ref (ad 1)) cx fk_X9_7 dX9_cycleOnce_65 0 rfl rfl ?_
    refine g_bipush (v := 6) cx dX9_cycleOnce_68 (by decide) ?_
    refine g_aload_n (v := ad 0) cx dX9_cycleOnce_70 rfl ?_
    refine g_iconst (v := 1) cx dX9_cycleOnce_71 (by decide) ?_
    refine g_aload_n (v := ad 0) cx dX9_cycleOnce_72 rfl ?_
    refine g_get (v := .ref (ad 1)) cx fk_X9_7 dX9_cycleOnce_73 0 rfl rfl ?_
    refine g_bipush (v := 16) cx dX9_cycleOnce_76 (by decide) ?_
    refine g_iald cx dX9_cycleOnce_78 1 16 rfl (nl 16) (by omega) (by first | decide | omega) ?_
    refine g_top (y := N1 16) (rfl) ?_
    refine w_calli (r0 := mTime N1 (N1 16) n 1) (ws' := wMo V ad N1 rw ps im kp tx sw sv D C P E fa ao al de le ax ta ts tv se il) (As := [.int 1, .int (N1 16)]) (rest := [.int 6, .ref (ad 1)]) cx (c_X9_timeOf V ad N1 rw ps im kp tx sw sv D C P E fa ao al de le ax ta ts tv se il 1 (N1 16) 1 (nl 1) n hnN1 (by omega) hcN1 (by omega)) ml_X9_158 dX9_cycleOnce_79 (q0 := 0) rfl rfl rfl rfl rfl (Nat.le_of_ble_eq_true rfl) ⟨Nat.le_of_ble_eq_true rfl, Nat.le_of_ble_eq_true rfl⟩ ⟨Nat.le_refl _, Nat.le_refl _⟩ ?_
    refine g_iast (ws' := wMo V ad (upd N1 6 (mTime N1 (N1 16) n 1)) rw ps im kp tx sw sv D C P E fa ao al de le ax ta ts tv se il) cx dX9_cycleOnce_82 1 6 rfl (nl 6) (by omega) (by first | decide | omega) rfl ?_
    have hn2 : (upd N1 6 (mTime N1 (N1 16) n 1)) 0 = nI n := by rw [pk_un (by decide)]; exact hnN1
    have ho2 : (upd N1 6 (mTime N1 (N1 16) n 1)) 3 = nI o := by rw [pk_un (by decide)]; exact hoN1
    generalize (upd N1 6 (mTime N1 (N1 16) n 1)) = N2 at hret hn2 ho2 ⊢
    have eC : mCy2 n o (N2, D, C, P, E) = (mTick E n (mEnd (mRes D C o N2 o)), D, C, P, E) := rfl
    rw [eC] at hret
    clear eC
    dsimp only at hret
    refine g_iconst (v := 0) cx dX9_cycleOnce_83 (by decide) ?_
    refine g_istore_n (lv' := [(0, .ref (ad 0)), (1, .int 0)]) cx dX9_cycleOnce_84 (by decide) rfl ?_
    refine rf_dn (P := fun i => G V K 4 0 0 (wMo V ad (mRes D C o N2 i) rw ps im kp tx sw sv D C P E fa ao al de le ax ta ts tv se il) 85 [(0, .ref (ad 0)), (1, .int (nI i))] []) (o) (fun i hi ihi => ?_) ?_
    · skip
      have hio : i < o := hi
      have e1 : mRes D C o N2 (i + 1) = upd (upd (mRes D C o N2 i) (91 + 2 * i) (mCnt (mRes D C o N2 i) C o i)) (91 + 2 * i + 1) (mDat (upd (mRes D C o N2 i) (91 + 2 * i) (mCnt (mRes D C o N2 i) C o i)) D C i) := rfl
      rw [e1] at ihi
      clear e1
      have ho3 : mRes D C o N2 i 3 = nI o := (mRes_k (by decide) i).trans ho2
      generalize mRes D C o N2 i = N3 at ihi ho3 ⊢
      refine g_iload_n (v := nI i) cx dX9_cycleOnce_85 rfl ?_
      refine g_aload_n (v := ad 0) cx dX9_cycleOnce_86 rfl ?_
      refine g_get (v := .ref (ad 1)) cx fk_X9_7 dX9_cycleOnce_87 0 rfl rfl ?_
      refine g_iconst (v := 3) cx dX9_cycleOnce_90 (by decide) ?_
      refine g_iald cx dX9_cycleOnce_91 1 3 rfl (nl 3) (by omega) (by first | decide | omega) ?_
      refine g_top (y := N3 3) (rfl) ?_
      refine g_icmp_ge cx 135 dX9_cycleOnce_92 (by decide) (fun hw2 => absurd hw2 (rf_geMN rfl ho3 (by omega) (by omega) (by omega))) (fun hw2 => ?_)
      refine g_aload_n (v := ad 0) cx dX9_cycleOnce_95 rfl ?_
      refine g_get (v := .ref (ad 1)) cx fk_X9_7 dX9_cycleOnce_96 0 rfl rfl ?_
      refine g_bipush (v := 91) cx dX9_cycleOnce_99 (by decide) ?_
      refine g_iconst (v := 2) cx dX9_cycleOnce_101 (by decide) ?_
      refine g_iload_n (v := nI i) cx dX9_cycleOnce_102 rfl ?_
      refine g_imul cx dX9_cycleOnce_103 ?_
      refine g_iadd cx dX9_cycleOnce_104 ?_
      refine g_aload_n (v := ad 0) cx dX9_cycleOnce_105 rfl ?_
      refine g_iload_n (v := nI i) cx dX9_cycleOnce_106 rfl ?_
      refine w_calli (r0 := mCnt N3 C o i) (ws' := wMo V ad N3 rw ps im kp tx sw sv D C P E fa ao al de le ax ta ts tv se il) (As := [.int (nI i)]) (rest := [.int (91 + (2 * (nI i))), .ref (ad 1)]) cx (c_X9_countOf V ad N3 rw ps im kp tx sw sv D C P E fa ao al de le ax ta ts tv se il (nI i) i rfl (by omega) o ho3 (by omega)) ml_X9_155 dX9_cycleOnce_107 (q0 := 0) rfl rfl rfl rfl rfl (Nat.le_of_ble_eq_true rfl) ⟨Nat.le_of_ble_eq_true rfl, Nat.le_of_ble_eq_true rfl⟩ ⟨Nat.le_refl _, Nat.le_refl _⟩ ?_
      refine g_iast (ws' := wMo V ad (upd N3 (91 + (2 * i)) (mCnt N3 C o i)) rw ps im kp tx sw sv D C P E fa ao al de le ax ta ts tv se il) cx dX9_cycleOnce_110 1 (91 + (2 * i)) rfl (rf_add (nl 91) (rf_mul (nl 2) rfl)) (by omega) (by first | decide | omega) rfl ?_
      refine g_aload_n (v := ad 0) cx dX9_cycleOnce_111 rfl ?_
      refine g_get (v := .ref (ad 1)) cx fk_X9_7 dX9_cycleOnce_112 0 rfl rfl ?_
      refine g_bipush (v := 91) cx dX9_cycleOnce_115 (by decide) ?_
      refine g_iconst (v := 2) cx dX9_cycleOnce_117 (by decide) ?_
      refine g_iload_n (v := nI i) cx dX9_cycleOnce_118 rfl ?_
      refine g_imul cx dX9_cycleOnce_119 ?_
      refine g_iadd cx dX9_cycleOnce_120 ?_
      refine g_iconst (v := 1) cx dX9_cycleOnce_121 (by decide) ?_
      refine g_iadd cx dX9_cycleOnce_122 ?_
      refine g_aload_n (v := ad 0) cx dX9_cycleOnce_123 rfl ?_
      refine g_iload_n (v := nI i) cx dX9_cycleOnce_124 rfl ?_
      refine w_calli (r0 := mDat (upd N3 (91 + (2 * i)) (mCnt N3 C o i)) D C i) (ws' := wMo V ad (upd N3 (91 + (2 * i)) (mCnt N3 C o i)) rw ps im kp tx sw sv D C P E fa ao al de le ax ta ts tv se il) (As := [.int (nI i)]) (rest := [.int ((91 + (2 * (nI i))) + 1), .ref (ad 1)]) cx (c_X9_dataOf V ad (upd N3 (91 + (2 * i)) (mCnt N3 C o i)) rw ps im kp tx sw sv D C P E fa ao al de le ax ta ts tv se il (nI i) i rfl (by omega)) ml_X9_161 dX9_cycleOnce_125 (q0 := 0) rfl rfl rfl rfl rfl (Nat.le_of_ble_eq_true rfl) ⟨Nat.le_of_ble_eq_true rfl, Nat.le_of_ble_eq_true rfl⟩ ⟨Nat.le_refl _, Nat.le_refl _⟩ ?_
      refine g_iast (ws' := wMo V ad (upd (upd N3 (91 + (2 * i)) (mCnt N3 C o i)) ((91 + (2 * i)) + 1) (mDat (upd N3 (91 + (2 * i)) (mCnt N3 C o i)) D C i)) rw ps im kp tx sw sv D C P E fa ao al de le ax ta ts tv se il) cx dX9_cycleOnce_128 1 ((91 + (2 * i)) + 1) rfl (rf_add (rf_add (nl 91) (rf_mul (nl 2) rfl)) (nl 1)) (by omega) (by first | decide | omega) rfl ?_
      refine g_iinc (x := nI i) (v := nI (i + 1)) (lv' := [(0, .ref (ad 0)), (1, .int (nI (i + 1)))]) cx dX9_cycleOnce_129 rfl (by decide) (nI_add _ _) rfl ?_
      refine g_goto cx 85 dX9_cycleOnce_132 (by decide) ?_
      exact ihi
    · skip
      have hoX : (mRes D C o N2 o) 3 = nI o := (mRes_k (by decide) o).trans ho2
      refine g_iload_n (v := nI o) cx dX9_cycleOnce_85 rfl ?_
      refine g_aload_n (v := ad 0) cx dX9_cycleOnce_86 rfl ?_
      refine g_get (v := .ref (ad 1)) cx fk_X9_7 dX9_cycleOnce_87 0 rfl rfl ?_
      refine g_iconst (v := 3) cx dX9_cycleOnce_90 (by decide) ?_
      refine g_iald cx dX9_cycleOnce_91 1 3 rfl (nl 3) (by omega) (by first | decide | omega) ?_
      refine g_top (y := (mRes D C o N2 o) 3) (rfl) ?_
      refine g_icmp_ge cx 135 dX9_cycleOnce_92 (by decide) (fun hw3 => ?_) (fun hw3 => absurd (rf_geMP rfl hoX (by omega) (by omega) (by omega)) hw3)
      refine g_aload_n (v := ad 0) cx dX9_cycleOnce_135 rfl ?_
      refine g_get (v := .ref (ad 1)) cx fk_X9_7 dX9_cycleOnce_136 0 rfl rfl ?_
      refine g_iconst (v := 4) cx dX9_cycleOnce_139 (by decide) ?_
      refine g_iconst (v := 1) cx dX9_cycleOnce_140 (by decide) ?_
      refine g_iast (ws' := wMo V ad (upd (mRes D C o N2 o) 4 1) rw ps im kp tx sw sv D C P E fa ao al de le ax ta ts tv se il) cx dX9_cycleOnce_141 1 4 rfl (nl 4) (by omega) (by first | decide | omega) rfl ?_
      refine g_aload_n (v := ad 0) cx dX9_cycleOnce_142 rfl ?_
      refine g_get (v := .ref (ad 1)) cx fk_X9_7 dX9_cycleOnce_143 0 rfl rfl ?_
      refine g_bipush (v := 8) cx dX9_cycleOnce_146 (by decide) ?_
      refine g_iconst (v := 0) cx dX9_cycleOnce_148 (by decide) ?_
      refine g_iast (ws' := wMo V ad (upd (upd (mRes D C o N2 o) 4 1) 8 0) rw ps im kp tx sw sv D C P E fa ao al de le ax ta ts tv se il) cx dX9_cycleOnce_149 1 8 rfl (nl 8) (by omega) (by first | decide | omega) rfl ?_
      refine g_aload_n (v := ad 0) cx dX9_cycleOnce_150 rfl ?_
      refine g_get (v := .ref (ad 1)) cx fk_X9_7 dX9_cycleOnce_151 0 rfl rfl ?_
      refine g_bipush (v := 7) cx dX9_cycleOnce_154 (by decide) ?_
      refine g_dup2 cx dX9_cycleOnce_156 rfl rfl ?_
      refine g_iald cx dX9_cycleOnce_157 1 7 rfl (nl 7) (by omega) (by first | decide | omega) ?_
      refine g_top (y := (upd (upd (mRes D C o N2 o) 4 1) 8 0) 7) (rfl) ?_
      refine g_iconst (v := 1) cx dX9_cycleOnce_158 (by decide) ?_
      refine g_iadd cx dX9_cycleOnce_159 ?_
      refine g_iast (ws' := wMo V ad (upd (upd (upd (mRes D C o N2 o) 4 1) 8 0) 7 (((upd (upd (mRes D C o N2 o) 4 1) 8 0) 7) + 1)) rw ps im kp tx sw sv D C P E fa ao al de le ax ta ts tv se il) cx dX9_cycleOnce_160 1 7 rfl (nl 7) (by omega) (by first | decide | omega) rfl ?_
      have eE : mEnd (mRes D C o N2 o) = (upd (upd (upd (mRes D C o N2 o) 4 1) 8 0) 7 (((upd (upd (mRes D C o N2 o) 4 1) 8 0) 7) + 1)) := rfl
      rw [eE] at hret
      have hn4 : (upd (upd (upd (mRes D C o N2 o) 4 1) 8 0) 7 (((upd (upd (mRes D C o N2 o) 4 1) 8 0) 7) + 1)) 0 = nI n := by rw [← eE, mEnd_k (by decide) (by decide) (by decide), mRes_k (by decide)]; exact hn2
      clear eE
      generalize (upd (upd (upd (mRes D C o N2 o) 4 1) 8 0) 7 (((upd (upd (mRes D C o N2 o) 4 1) 8 0) 7) + 1)) = N4 at hret hn4 ⊢
      refine g_iconst (v := 0) cx dX9_cycleOnce_161 (by decide) ?_
      refine g_istore_n (lv' := [(0, .ref (ad 0)), (1, .int 0)]) cx dX9_cycleOnce_162 (by decide) rfl ?_
      refine rf_dn (P := fun i => G V K 4 0 0 (wMo V ad (mTick E i N4) rw ps im kp tx sw sv D C P E fa ao al de le ax ta ts tv se il) 163 [(0, .ref (ad 0)), (1, .int (nI i))] []) (n) (fun i hi ihi => ?_) ?_
      · skip
        have hin : i < n := hi
        have e1 : mTick E (i + 1) N4 = mTk E i (mTick E i N4) := rfl
        rw [e1] at ihi
        clear e1
        have hk4 : mKeep N4 (mTick E i N4) := mTick_keep i (by omega)
        generalize mTick E i N4 = N5 at ihi hk4 ⊢
        have hn5 : N5 0 = nI n := (hk4 0 (Or.inl (by decide))).trans hn4
        refine g_iload_n (v := nI i) cx dX9_cycleOnce_163 rfl ?_
        refine g_aload_n (v := ad 0) cx dX9_cycleOnce_164 rfl ?_
        refine g_get (v := .ref (ad 1)) cx fk_X9_7 dX9_cycleOnce_165 0 rfl rfl ?_
        refine g_iconst (v := 0) cx dX9_cycleOnce_168 (by decide) ?_
        refine g_iald cx dX9_cycleOnce_169 1 0 rfl (nl 0) (by omega) (by first | decide | omega) ?_
        refine g_top (y := N5 0) (rfl) ?_
        refine g_icmp_ge cx 281 dX9_cycleOnce_170 (by decide) (fun hw4 => absurd hw4 (rf_geMN rfl hn5 (by omega) (by omega) (by omega))) (fun hw4 => ?_)
        refine g_bipush (v := 17) cx dX9_cycleOnce_173 (by decide) ?_
        refine g_bipush (v := 9) cx dX9_cycleOnce_175 (by decide) ?_
        refine g_iload_n (v := nI i) cx dX9_cycleOnce_177 rfl ?_
        refine g_imul cx dX9_cycleOnce_178 ?_
        refine g_iadd cx dX9_cycleOnce_179 ?_
        refine g_istore_n (lv' := [(0, .ref (ad 0)), (1, .int (nI i)), (2, .int (17 + (9 * (nI i))))]) cx dX9_cycleOnce_180 (by decide) rfl ?_
        refine g_aload_n (v := ad 0) cx dX9_cycleOnce_181 rfl ?_
        refine g_get (v := .ref (ad 1)) cx fk_X9_7 dX9_cycleOnce_182 0 rfl rfl ?_
        refine g_iload_n (v := 17 + (9 * (nI i))) cx dX9_cycleOnce_185 rfl ?_
        refine g_iconst (v := 5) cx dX9_cycleOnce_186 (by decide) ?_
        refine g_iadd cx dX9_cycleOnce_187 ?_
        refine g_aload_n (v := ad 0) cx dX9_cycleOnce_188 rfl ?_
        refine g_get (v := .ref (ad 12)) cx fk_X9_44 dX9_cycleOnce_189 0 rfl rfl ?_
        refine g_iload_n (v := nI i) cx dX9_cycleOnce_192 rfl ?_
        refine g_zald cx dX9_cycleOnce_193 12 i rfl (rfl) (by omega) (by first | decide | omega) ?_
        refine g_top (y := E i) (rfl) ?_
        refine g_if_eq cx 201 dX9_cycleOnce_194 (by decide) (fun hw5 => ?_) (fun hw5 => ?_)
        · skip
          refine g_aload_n (v := ad 0) cx dX9_cycleOnce_201 rfl ?_
          refine g_get (v := .ref (ad 1)) cx fk_X9_7 dX9_cycleOnce_202 0 rfl rfl ?_
          refine g_iload_n (v := 17 + (9 * (nI i))) cx dX9_cycleOnce_205 rfl ?_
          refine g_iconst (v := 5) cx dX9_cycleOnce_206 (by decide) ?_
          refine g_iadd cx dX9_cycleOnce_207 ?_
          refine g_iald cx dX9_cycleOnce_208 1 ((17 + (9 * i)) + 5) rfl (rf_add (rf_add (nl 17) (rf_mul (nl 9) rfl)) (nl 5)) (by omega) (by first | decide | omega) ?_
          refine g_top (y := N5 ((17 + (9 * i)) + 5)) (rfl) ?_
          refine g_iconst (v := 1) cx dX9_cycleOnce_209 (by decide) ?_
          refine g_iadd cx dX9_cycleOnce_210 ?_
          refine g_iast (ws' := wMo V ad (upd N5 ((17 + (9 * i)) + 5) ((N5 ((17 + (9 * i)) + 5)) + 1)) rw ps im kp tx sw sv D C P E fa ao al de le ax ta ts tv se il) cx dX9_cycleOnce_211 1 ((17 + (9 * i)) + 5) rfl (rf_add (rf_add (nl 17) (rf_mul (nl 9) rfl)) (nl 5)) (by omega) (by first | decide | omega) rfl ?_
          refine g_aload_n (v := ad 0) cx dX9_cycleOnce_212 rfl ?_
          refine g_get (v := .ref (ad 1)) cx fk_X9_7 dX9_cycleOnce_213 0 rfl rfl ?_
          refine g_iload_n (v := 17 + (9 * (nI i))) cx dX9_cycleOnce_216 rfl ?_
          refine g_iconst (v := 5) cx dX9_cycleOnce_217 (by decide) ?_
          refine g_iadd cx dX9_cycleOnce_218 ?_
          refine g_iald cx dX9_cycleOnce_219 1 ((17 + (9 * i)) + 5) rfl (rf_add (rf_add (nl 17) (rf_mul (nl 9) rfl)) (nl 5)) (by omega) (by first | decide | omega) ?_
          refine g_top (y := (upd N5 ((17 + (9 * i)) + 5) ((N5 ((17 + (9 * i)) + 5)) + 1)) ((17 + (9 * i)) + 5)) (rfl) ?_
          refine g_aload_n (v := ad 0) cx dX9_cycleOnce_220 rfl ?_
          refine g_get (v := .ref (ad 1)) cx fk_X9_7 dX9_cycleOnce_221 0 rfl rfl ?_
          refine g_iconst (v := 2) cx dX9_cycleOnce_224 (by decide) ?_
          refine g_iald cx dX9_cycleOnce_225 1 2 rfl (nl 2) (by omega) (by first | decide | omega) ?_
          refine g_top (y := (upd N5 ((17 + (9 * i)) + 5) ((N5 ((17 + (9 * i)) + 5)) + 1)) 2) (rfl) ?_
          refine g_icmp_lt cx 275 dX9_cycleOnce_226 (by decide) (fun hw6 => ?_) (fun hw6 => ?_)
          · skip
            refine g_iinc (x := nI i) (v := nI (i + 1)) (lv' := [(0, .ref (ad 0)), (1, .int (nI (i + 1))), (2, .int (17 + (9 * (nI i))))]) cx dX9_cycleOnce_275 rfl (by decide) (nI_add _ _) rfl ?_
            refine g_goto cx 163 dX9_cycleOnce_278 (by decide) ?_
            refine g_lvk (lv' := [(0, .ref (ad 0)), (1, .int (nI (i + 1)))]) [0, 1] rfl ?_
            rw [mTk, mTk1, if_pos hw5, if_pos hw6] at ihi
            exact ihi
          · skip
            refine g_aload_n (v := ad 0) cx dX9_cycleOnce_229 rfl ?_
            refine g_get (v := .ref (ad 1)) cx fk_X9_7 dX9_cycleOnce_230 0 rfl rfl ?_
            refine g_iload_n (v := 17 + (9 * (nI i))) cx dX9_cycleOnce_233 rfl ?_
            refine g_bipush (v := 6) cx dX9_cycleOnce_234 (by decide) ?_
            refine g_iadd cx dX9_cycleOnce_236 ?_
            refine g_iald cx dX9_cycleOnce_237 1 ((17 + (9 * i)) + 6) rfl (rf_add (rf_add (nl 17) (rf_mul (nl 9) rfl)) (nl 6)) (by omega) (by first | decide | omega) ?_
            refine g_top (y := (upd N5 ((17 + (9 * i)) + 5) ((N5 ((17 + (9 * i)) + 5)) + 1)) ((17 + (9 * i)) + 6)) (rfl) ?_
            refine g_if_ne cx 275 dX9_cycleOnce_238 (by decide) (fun hw7 => ?_) (fun hw7 => ?_)
            · skip
              refine g_iinc (x := nI i) (v := nI (i + 1)) (lv' := [(0, .ref (ad 0)), (1, .int (nI (i + 1))), (2, .int (17 + (9 * (nI i))))]) cx dX9_cycleOnce_275 rfl (by decide) (nI_add _ _) rfl ?_
              refine g_goto cx 163 dX9_cycleOnce_278 (by decide) ?_
              refine g_lvk (lv' := [(0, .ref (ad 0)), (1, .int (nI (i + 1)))]) [0, 1] rfl ?_
              rw [mTk, mTk1, if_pos hw5, if_neg hw6, if_neg hw7] at ihi
              exact ihi
            · skip
              refine g_aload_n (v := ad 0) cx dX9_cycleOnce_241 rfl ?_
              refine g_get (v := .ref (ad 1)) cx fk_X9_7 dX9_cycleOnce_242 0 rfl rfl ?_
              refine g_iload_n (v := 17 + (9 * (nI i))) cx dX9_cycleOnce_245 rfl ?_
              refine g_bipush (v := 6) cx dX9_cycleOnce_246 (by decide) ?_
              refine g_iadd cx dX9_cycleOnce_248 ?_
              refine g_iconst (v := 1) cx dX9_cycleOnce_249 (by decide) ?_
              refine g_iast (ws' := wMo V ad (upd (upd N5 ((17 + (9 * i)) + 5) ((N5 ((17 + (9 * i)) + 5)) + 1)) ((17 + (9 * i)) + 6) 1) rw ps im kp tx sw sv D C P E fa ao al de le ax ta ts tv se il) cx dX9_cycleOnce_250 1 ((17 + (9 * i)) + 6) rfl (rf_add (rf_add (nl 17) (rf_mul (nl 9) rfl)) (nl 6)) (by omega) (by first | decide | omega) rfl ?_
              refine g_iconst (v := 0) cx dX9_cycleOnce_251 (by decide) ?_
              refine g_istore_n (lv' := [(0, .ref (ad 0)), (1, .int (nI i)), (2, .int (17 + (9 * (nI i)))), (3, .int 0)]) cx dX9_cycleOnce_252 (by decide) rfl ?_
              refine rf_dn (P := fun kk => G V K 4 0 0 (wMo V ad (fl (fun k N => upd N (17 + 9 * i + 1 + k) 0) kk (upd (upd N5 ((17 + (9 * i)) + 5) ((N5 ((17 + (9 * i)) + 5)) + 1)) ((17 + (9 * i)) + 6) 1)) rw ps im kp tx sw sv D C P E fa ao al de le ax ta ts tv se il) 253 [(0, .ref (ad 0)), (1, .int (nI i)), (2, .int (17 + (9 * (nI i)))), (3, .int (nI kk))] []) (4) (fun kk hkk ihkk => ?_) ?_
              · skip
                have h4 : kk < 4 := hkk
                refine g_iload_n (v := nI kk) cx dX9_cycleOnce_253 rfl ?_
                refine g_iconst (v := 4) cx dX9_cycleOnce_254 (by decide) ?_
                refine g_icmp_ge cx 275 dX9_cycleOnce_255 (by decide) (fun hw8 => absurd hw8 (rf_geMN rfl (nl 4) (by omega) (by omega) (by omega))) (fun hw8 => ?_)
                refine g_aload_n (v := ad 0) cx dX9_cycleOnce_258 rfl ?_
                refine g_get (v := .ref (ad 1)) cx fk_X9_7 dX9_cycleOnce_259 0 rfl rfl ?_
                refine g_iload_n (v := 17 + (9 * (nI i))) cx dX9_cycleOnce_262 rfl ?_
                refine g_iconst (v := 1) cx dX9_cycleOnce_263 (by decide) ?_
                refine g_iadd cx dX9_cycleOnce_264 ?_
                refine g_iload_n (v := nI kk) cx dX9_cycleOnce_265 rfl ?_
                refine g_iadd cx dX9_cycleOnce_266 ?_
                refine g_iconst (v := 0) cx dX9_cycleOnce_267 (by decide) ?_
                refine g_iast (ws' := wMo V ad (upd (fl (fun k N => upd N (17 + 9 * i + 1 + k) 0) kk (upd (upd N5 ((17 + (9 * i)) + 5) ((N5 ((17 + (9 * i)) + 5)) + 1)) ((17 + (9 * i)) + 6) 1)) (((17 + (9 * i)) + 1) + kk) 0) rw ps im kp tx sw sv D C P E fa ao al de le ax ta ts tv se il) cx dX9_cycleOnce_268 1 (((17 + (9 * i)) + 1) + kk) rfl (rf_add (rf_add (rf_add (nl 17) (rf_mul (nl 9) rfl)) (nl 1)) rfl) (by omega) (by first | decide | omega) rfl ?_
                refine g_iinc (x := nI kk) (v := nI (kk + 1)) (lv' := [(0, .ref (ad 0)), (1, .int (nI i)), (2, .int (17 + (9 * (nI i)))), (3, .int (nI (kk + 1)))]) cx dX9_cycleOnce_269 rfl (by decide) (nI_add _ _) rfl ?_
                refine g_goto cx 253 dX9_cycleOnce_272 (by decide) ?_
                exact ihkk
              · skip
                refine g_iload_n (v := nI 4) cx dX9_cycleOnce_253 rfl ?_
                refine g_iconst (v := 4) cx dX9_cycleOnce_254 (by decide) ?_
                refine g_icmp_ge cx 275 dX9_cycleOnce_255 (by decide) (fun hw9 => ?_) (fun hw9 => absurd (rf_geMP rfl (nl 4) (by omega) (by omega) (by omega)) hw9)
                refine g_iinc (x := nI i) (v := nI (i + 1)) (lv' := [(0, .ref (ad 0)), (1, .int (nI (i + 1))), (2, .int (17 + (9 * (nI i)))), (3, .int (nI 4))]) cx dX9_cycleOnce_275 rfl (by decide) (nI_add _ _) rfl ?_
                refine g_goto cx 163 dX9_cycleOnce_278 (by decide) ?_
                refine g_lvk (lv' := [(0, .ref (ad 0)), (1, .int (nI (i + 1)))]) [0, 1] rfl ?_
                rw [mTk, mTk1, if_pos hw5, if_neg hw6, if_pos hw7] at ihi
                exact ihi
        · skip
          refine g_iconst (v := 0) cx dX9_cycleOnce_197 (by decide) ?_
          refine g_goto cx 211 dX9_cycleOnce_198 (by decide) ?_
          refine g_iast (ws' := wMo V ad (upd N5 ((17 + (9 * i)) + 5) 0) rw ps im kp tx sw sv D C P E fa ao al de le ax ta ts tv se il) cx dX9_cycleOnce_211 1 ((17 + (9 * i)) + 5) rfl (rf_add (rf_add (nl 17) (rf_mul (nl 9) rfl)) (nl 5)) (by omega) (by first | decide | omega) rfl ?_
          refine g_aload_n (v := ad 0) cx dX9_cycleOnce_212 rfl ?_
          refine g_get (v := .ref (ad 1)) cx fk_X9_7 dX9_cycleOnce_213 0 rfl rfl ?_
          refine g_iload_n (v := 17 + (9 * (nI i))) cx dX9_cycleOnce_216 rfl ?_
          refine g_iconst (v := 5) cx dX9_cycleOnce_217 (by decide) ?_
          refine g_iadd cx dX9_cycleOnce_218 ?_
          refine g_iald cx dX9_cycleOnce_219 1 ((17 + (9 * i)) + 5) rfl (rf_add (rf_add (nl 17) (rf_mul (nl 9) rfl)) (nl 5)) (by omega) (by first | decide | omega) ?_
          refine g_top (y := (upd N5 ((17 + (9 * i)) + 5) 0) ((17 + (9 * i)) + 5)) (rfl) ?_
          refine g_aload_n (v := ad 0) cx dX9_cycleOnce_220 rfl ?_
          refine g_get (v := .ref (ad 1)) cx fk_X9_7 dX9_cycleOnce_221 0 rfl rfl ?_
          refine g_iconst (v := 2) cx dX9_cycleOnce_224 (by decide) ?_
          refine g_iald cx dX9_cycleOnce_225 1 2 rfl (nl 2) (by omega) (by first | decide | omega) ?_
          refine g_top (y := (upd N5 ((17 + (9 * i)) + 5) 0) 2) (rfl) ?_
          refine g_icmp_lt cx 275 dX9_cycleOnce_226 (by decide) (fun hw10 => ?_) (fun hw10 => ?_)
          · skip
            refine g_iinc (x := nI i) (v := nI (i + 1)) (lv' := [(0, .ref (ad 0)), (1, .int (nI (i + 1))), (2, .int (17 + (9 * (nI i))))]) cx dX9_cycleOnce_275 rfl (by decide) (nI_add _ _) rfl ?_
            refine g_goto cx 163 dX9_cycleOnce_278 (by decide) ?_
            refine g_lvk (lv' := [(0, .ref (ad 0)), (1, .int (nI (i + 1)))]) [0, 1] rfl ?_
            rw [mTk, mTk1, if_neg hw5, if_pos hw10] at ihi
            exact ihi
          · skip
            refine g_aload_n (v := ad 0) cx dX9_cycleOnce_229 rfl ?_
            refine g_get (v := .ref (ad 1)) cx fk_X9_7 dX9_cycleOnce_230 0 rfl rfl ?_
            refine g_iload_n (v := 17 + (9 * (nI i))) cx dX9_cycleOnce_233 rfl ?_
            refine g_bipush (v := 6) cx dX9_cycleOnce_234 (by decide) ?_
            refine g_iadd cx dX9_cycleOnce_236 ?_
            refine g_iald cx dX9_cycleOnce_237 1 ((17 + (9 * i)) + 6) rfl (rf_add (rf_add (nl 17) (rf_mul (nl 9) rfl)) (nl 6)) (by omega) (by first | decide | omega) ?_
            refine g_top (y := (upd N5 ((17 + (9 * i)) + 5) 0) ((17 + (9 * i)) + 6)) (rfl) ?_
            refine g_if_ne cx 275 dX9_cycleOnce_238 (by decide) (fun hw11 => ?_) (fun hw11 => ?_)
            · skip
              refine g_iinc (x := nI i) (v := nI (i + 1)) (lv' := [(0, .ref (ad 0)), (1, .int (nI (i + 1))), (2, .int (17 + (9 * (nI i))))]) cx dX9_cycleOnce_275 rfl (by decide) (nI_add _ _) rfl ?_
              refine g_goto cx 163 dX9_cycleOnce_278 (by decide) ?_
              refine g_lvk (lv' := [(0, .ref (ad 0)), (1, .int (nI (i + 1)))]) [0, 1] rfl ?_
              rw [mTk, mTk1, if_neg hw5, if_neg hw10, if_neg hw11] at ihi
              exact ihi
            · skip
              refine g_aload_n (v := ad 0) cx dX9_cycleOnce_241 rfl ?_
              refine g_get (v := .ref (ad 1)) cx fk_X9_7 dX9_cycleOnce_242 0 rfl rfl ?_
              refine g_iload_n (v := 17 + (9 * (nI i))) cx dX9_cycleOnce_245 rfl ?_
              refine g_bipush (v := 6) cx dX9_cycleOnce_246 (by decide) ?_
              refine g_iadd cx dX9_cycleOnce_248 ?_
              refine g_iconst (v := 1) cx dX9_cycleOnce_249 (by decide) ?_
              refine g_iast (ws' := wMo V ad (upd (upd N5 ((17 + (9 * i)) + 5) 0) ((17 + (9 * i)) + 6) 1) rw ps im kp tx sw sv D C P E fa ao al de le ax ta ts tv se il) cx dX9_cycleOnce_250 1 ((17 + (9 * i)) + 6) rfl (rf_add (rf_add (nl 17) (rf_mul (nl 9) rfl)) (nl 6)) (by omega) (by first | decide | omega) rfl ?_
              refine g_iconst (v := 0) cx dX9_cycleOnce_251 (by decide) ?_
              refine g_istore_n (lv' := [(0, .ref (ad 0)), (1, .int (nI i)), (2, .int (17 + (9 * (nI i)))), (3, .int 0)]) cx dX9_cycleOnce_252 (by decide) rfl ?_
              refine rf_dn (P := fun kk => G V K 4 0 0 (wMo V ad (fl (fun k N => upd N (17 + 9 * i + 1 + k) 0) kk (upd (upd N5 ((17 + (9 * i)) + 5) 0) ((17 + (9 * i)) + 6) 1)) rw ps im kp tx sw sv D C P E fa ao al de le ax ta ts tv se il) 253 [(0, .ref (ad 0)), (1, .int (nI i)), (2, .int (17 + (9 * (nI i)))), (3, .int (nI kk))] []) (4) (fun kk hkk ihkk => ?_) ?_
              · skip
                have h4 : kk < 4 := hkk
                refine g_iload_n (v := nI kk) cx dX9_cycleOnce_253 rfl ?_
                refine g_iconst (v := 4) cx dX9_cycleOnce_254 (by decide) ?_
                refine g_icmp_ge cx 275 dX9_cycleOnce_255 (by decide) (fun hw12 => absurd hw12 (rf_geMN rfl (nl 4) (by omega) (by omega) (by omega))) (fun hw12 => ?_)
                refine g_aload_n (v := ad 0) cx dX9_cycleOnce_258 rfl ?_
                refine g_get (v := .ref (ad 1)) cx fk_X9_7 dX9_cycleOnce_259 0 rfl rfl ?_
                refine g_iload_n (v := 17 + (9 * (nI i))) cx dX9_cycleOnce_262 rfl ?_
                refine g_iconst (v := 1) cx dX9_cycleOnce_263 (by decide) ?_
                refine g_iadd cx dX9_cycleOnce_264 ?_
                refine g_iload_n (v := nI kk) cx dX9_cycleOnce_265 rfl ?_
                refine g_iadd cx dX9_cycleOnce_266 ?_
                refine g_iconst (v := 0) cx dX9_cycleOnce_267 (by decide) ?_
                refine g_iast (ws' := wMo V ad (upd (fl (fun k N => upd N (17 + 9 * i + 1 + k) 0) kk (upd (upd N5 ((17 + (9 * i)) + 5) 0) ((17 + (9 * i)) + 6) 1)) (((17 + (9 * i)) + 1) + kk) 0) rw ps im kp tx sw sv D C P E fa ao al de le ax ta ts tv se il) cx dX9_cycleOnce_268 1 (((17 + (9 * i)) + 1) + kk) rfl (rf_add (rf_add (rf_add (nl 17) (rf_mul (nl 9) rfl)) (nl 1)) rfl) (by omega) (by first | decide | omega) rfl ?_
                refine g_iinc (x := nI kk) (v := nI (kk + 1)) (lv' := [(0, .ref (ad 0)), (1, .int (nI i)), (2, .int (17 + (9 * (nI i)))), (3, .int (nI (kk + 1)))]) cx dX9_cycleOnce_269 rfl (by decide) (nI_add _ _) rfl ?_
                refine g_goto cx 253 dX9_cycleOnce_272 (by decide) ?_
                exact ihkk
              · skip
                refine g_iload_n (v := nI 4) cx dX9_cycleOnce_253 rfl ?_
                refine g_iconst (v := 4) cx dX9_cycleOnce_254 (by decide) ?_
                refine g_icmp_ge cx 275 dX9_cycleOnce_255 (by decide) (fun hw13 => ?_) (fun hw13 => absurd (rf_geMP rfl (nl 4) (by omega) (by omega) (by omega)) hw13)
                refine g_iinc (x := nI i) (v := nI (i + 1)) (lv' := [(0, .ref (ad 0)), (1, .int (nI (i + 1))), (2, .int (17 + (9 * (nI i)))), (3, .int (nI 4))]) cx dX9_cycleOnce_275 rfl (by decide) (nI_add _ _) rfl ?_
                refine g_goto cx 163 dX9_cycleOnce_278 (by decide) ?_
                refine g_lvk (lv' := [(0, .ref (ad 0)), (1, .int (nI (i + 1)))]) [0, 1] rfl ?_
                rw [mTk, mTk1, if_neg hw5, if_neg hw10, if_pos hw11] at ihi
                exact ihi
      · skip
        have hnX : (mTick E n N4) 0 = nI n := (mTick_keep n hn6 0 (Or.inl (by decide))).trans hn4
        refine g_iload_n (v := nI n) cx dX9_cycleOnce_163 rfl ?_
        refine g_aload_n (v := ad 0) cx dX9_cycleOnce_164 rfl ?_
        refine g_get (v := .ref (ad 1)) cx fk_X9_7 dX9_cycleOnce_165 0 rfl rfl ?_
        refine g_iconst (v := 0) cx dX9_cycleOnce_168 (by decide) ?_
        refine g_iald cx dX9_cycleOnce_169 1 0 rfl (nl 0) (by omega) (by first | decide | omega) ?_
        refine g_top (y := (mTick E n N4) 0) (rfl) ?_
        refine g_icmp_ge cx 281 dX9_cycleOnce_170 (by decide) (fun hw14 => ?_) (fun hw14 => absurd (rf_geMP rfl hnX (by omega) (by omega) (by omega)) hw14)
        exact hret _ _ _ dX9_cycleOnce_281 (rfl)
  · skip
    refine g_aload_n (v := ad 0) cx dX9_cycleOnce_11 rfl ?_
    refine w_callv (ws' := wMo V ad nw rw ps im kp tx sw sv (mBd nw da 8) (mBc co 8) pl (rFill me 0 0 6) fa ao al de le ax ta ts tv se il) (As := []) (rest := []) cx (c_X9_beginCopies V ad nw rw ps im kp tx sw sv da co pl me fa ao al de le ax ta ts tv se il) ml_X9_145 dX9_cycleOnce_12 (q0 := 0) rfl rfl rfl rfl rfl (Nat.le_of_ble_eq_true rfl) ⟨Nat.le_of_ble_eq_true rfl, Nat.le_of_ble_eq_true rfl⟩ ⟨Nat.le_refl _, Nat.le_refl _⟩ ?_
    refine g_aload_n (v := ad 0) cx dX9_cycleOnce_15 rfl ?_
    refine g_get (v := .ref (ad 1)) cx fk_X9_7 dX9_cycleOnce_16 0 rfl rfl ?_
    refine g_iconst (v := 5) cx dX9_cycleOnce_19 (by decide) ?_
    refine g_bipush (v := (-9)) cx dX9_cycleOnce_20 (by decide) ?_
    refine g_iast (ws' := wMo V ad (upd nw 5 (-9)) rw ps im kp tx sw sv (mBd nw da 8) (mBc co 8) pl (rFill me 0 0 6) fa ao al de le ax ta ts tv se il) cx dX9_cycleOnce_22 1 5 rfl (nl 5) (by omega) (by first | decide | omega) rfl ?_
    refine g_aload_n (v := ad 0) cx dX9_cycleOnce_23 rfl ?_
    refine g_get (v := .ref (ad 1)) cx fk_X9_7 dX9_cycleOnce_24 0 rfl rfl ?_
    refine g_bipush (v := 6) cx dX9_cycleOnce_27 (by decide) ?_
    refine g_bipush (v := (-9)) cx dX9_cycleOnce_29 (by decide) ?_
    refine g_iast (ws' := wMo V ad (upd (upd nw 5 (-9)) 6 (-9)) rw ps im kp tx sw sv (mBd nw da 8) (mBc co 8) pl (rFill me 0 0 6) fa ao al de le ax ta ts tv se il) cx dX9_cycleOnce_31 1 6 rfl (nl 6) (by omega) (by first | decide | omega) rfl ?_
    refine g_goto cx 83 dX9_cycleOnce_32 (by decide) ?_
    have eS : mCyc n o nw da co pl me = mCy2 n o ((upd (upd nw 5 (-9)) 6 (-9)), mBd nw da 8, mBc co 8, pl, rFill me 0 0 6) := by rw [mCyc, if_pos hw1]
    rw [eS] at hret
    clear eS
    have hn2 : (upd (upd nw 5 (-9)) 6 (-9)) 0 = nI n := by rw [pk_un (by decide), pk_un (by decide)]; exact hn
    have ho2 : (upd (upd nw 5 (-9)) 6 (-9)) 3 = nI o := by rw [pk_un (by decide), pk_un (by decide)]; exact ho
    generalize mBd nw da 8 = D at hret ⊢
    generalize mBc co 8 = C at hret ⊢
    generalize rFill me 0 0 6 = E at hret ⊢
    generalize hPP : pl = P at hret ⊢
    generalize (upd (upd nw 5 (-9)) 6 (-9)) = N2 at hret hn2 ho2 ⊢
    have eC : mCy2 n o (N2, D, C, P, E) = (mTick E n (mEnd (mRes D C o N2 o)), D, C, P, E) := rfl
    rw [eC] at hret
    clear eC
    dsimp only at hret
    refine g_iconst (v := 0) cx dX9_cycleOnce_83 (by decide) ?_
    refine g_istore_n (lv' := [(0, .ref (ad 0)), (1, .int 0)]) cx dX9_cycleOnce_84 (by decide) rfl ?_
    refine rf_dn (P := fun i => G V K 4 0 0 (wMo V ad (mRes D C o N2 i) rw ps im kp tx sw sv D C P E fa ao al de le ax ta ts tv se il) 85 [(0, .ref (ad 0)), (1, .int (nI i))] []) (o) (fun i hi ihi => ?_) ?_
    · skip
      have hio : i < o := hi
      have e1 : mRes D C o N2 (i + 1) = upd (upd (mRes D C o N2 i) (91 + 2 * i) (mCnt (mRes D C o N2 i) C o i)) (91 + 2 * i + 1) (mDat (upd (mRes D C o N2 i) (91 + 2 * i) (mCnt (mRes D C o N2 i) C o i)) D C i) := rfl
      rw [e1] at ihi
      clear e1
      have ho3 : mRes D C o N2 i 3 = nI o := (mRes_k (by decide) i).trans ho2
      generalize mRes D C o N2 i = N3 at ihi ho3 ⊢
      refine g_iload_n (v := nI i) cx dX9_cycleOnce_85 rfl ?_
      refine g_aload_n (v := ad 0) cx dX9_cycleOnce_86 rfl ?_
      refine g_get (v := .ref (ad 1)) cx fk_X9_7 dX9_cycleOnce_87 0 rfl rfl ?_
      refine g_iconst (v := 3) cx dX9_cycleOnce_90 (by decide) ?_
      refine g_iald cx dX9_cycleOnce_91 1 3 rfl (nl 3) (by omega) (by first | decide | omega) ?_
      refine g_top (y := N3 3) (rfl) ?_
      refine g_icmp_ge cx 135 dX9_cycleOnce_92 (by decide) (fun hw15 => absurd hw15 (rf_geMN rfl ho3 (by omega) (by omega) (by omega))) (fun hw15 => ?_)
      refine g_aload_n (v := ad 0) cx dX9_cycleOnce_95 rfl ?_
      refine g_get (v := .ref (ad 1)) cx fk_X9_7 dX9_cycleOnce_96 0 rfl rfl ?_
      refine g_bipush (v := 91) cx dX9_cycleOnce_99 (by decide) ?_
      refine g_iconst (v := 2) cx dX9_cycleOnce_101 (by decide) ?_
      refine g_iload_n (v := nI i) cx dX9_cycleOnce_102 rfl ?_
      refine g_imul cx dX9_cycleOnce_103 ?_
      refine g_iadd cx dX9_cycleOnce_104 ?_
      refine g_aload_n (v := ad 0) cx dX9_cycleOnce_105 rfl ?_
      refine g_iload_n (v := nI i) cx dX9_cycleOnce_106 rfl ?_
      refine w_calli (r0 := mCnt N3 C o i) (ws' := wMo V ad N3 rw ps im kp tx sw sv D C P E fa ao al de le ax ta ts tv se il) (As := [.int (nI i)]) (rest := [.int (91 + (2 * (nI i))), .ref (ad 1)]) cx (c_X9_countOf V ad N3 rw ps im kp tx sw sv D C P E fa ao al de le ax ta ts tv se il (nI i) i rfl (by omega) o ho3 (by omega)) ml_X9_155 dX9_cycleOnce_107 (q0 := 0) rfl rfl rfl rfl rfl (Nat.le_of_ble_eq_true rfl) ⟨Nat.le_of_ble_eq_true rfl, Nat.le_of_ble_eq_true rfl⟩ ⟨Nat.le_refl _, Nat.le_refl _⟩ ?_
      refine g_iast (ws' := wMo V ad (upd N3 (91 + (2 * i)) (mCnt N3 C o i)) rw ps im kp tx sw sv D C P E fa ao al de le ax ta ts tv se il) cx dX9_cycleOnce_110 1 (91 + (2 * i)) rfl (rf_add (nl 91) (rf_mul (nl 2) rfl)) (by omega) (by first | decide | omega) rfl ?_
      refine g_aload_n (v := ad 0) cx dX9_cycleOnce_111 rfl ?_
      refine g_get (v := .ref (ad 1)) cx fk_X9_7 dX9_cycleOnce_112 0 rfl rfl ?_
      refine g_bipush (v := 91) cx dX9_cycleOnce_115 (by decide) ?_
      refine g_iconst (v := 2) cx dX9_cycleOnce_117 (by decide) ?_
      refine g_iload_n (v := nI i) cx dX9_cycleOnce_118 rfl ?_
      refine g_imul cx dX9_cycleOnce_119 ?_
      refine g_iadd cx dX9_cycleOnce_120 ?_
      refine g_iconst (v := 1) cx dX9_cycleOnce_121 (by decide) ?_
      refine g_iadd cx dX9_cycleOnce_122 ?_
      refine g_aload_n (v := ad 0) cx dX9_cycleOnce_123 rfl ?_
      refine g_iload_n (v := nI i) cx dX9_cycleOnce_124 rfl ?_
      refine w_calli (r0 := mDat (upd N3 (91 + (2 * i)) (mCnt N3 C o i)) D C i) (ws' := wMo V ad (upd N3 (91 + (2 * i)) (mCnt N3 C o i)) rw ps im kp tx sw sv D C P E fa ao al de le ax ta ts tv se il) (As := [.int (nI i)]) (rest := [.int ((91 + (2 * (nI i))) + 1), .ref (ad 1)]) cx (c_X9_dataOf V ad (upd N3 (91 + (2 * i)) (mCnt N3 C o i)) rw ps im kp tx sw sv D C P E fa ao al de le ax ta ts tv se il (nI i) i rfl (by omega)) ml_X9_161 dX9_cycleOnce_125 (q0 := 0) rfl rfl rfl rfl rfl (Nat.le_of_ble_eq_true rfl) ⟨Nat.le_of_ble_eq_true rfl, Nat.le_of_ble_eq_true rfl⟩ ⟨Nat.le_refl _, Nat.le_refl _⟩ ?_
      refine g_iast (ws' := wMo V ad (upd (upd N3 (91 + (2 * i)) (mCnt N3 C o i)) ((91 + (2 * i)) + 1) (mDat (upd N3 (91 + (2 * i)) (mCnt N3 C o i)) D C i)) rw ps im kp tx sw sv D C P E fa ao al de le ax ta ts tv se il) cx dX9_cycleOnce_128 1 ((91 + (2 * i)) + 1) rfl (rf_add (rf_add (nl 91) (rf_mul (nl 2) rfl)) (nl 1)) (by omega) (by first | decide | omega) rfl ?_
      refine g_iinc (x := nI i) (v := nI (i + 1)) (lv' := [(0, .ref (ad 0)), (1, .int (nI (i + 1)))]) cx dX9_cycleOnce_129 rfl (by decide) (nI_add _ _) rfl ?_
      refine g_goto cx 85 dX9_cycleOnce_132 (by decide) ?_
      exact ihi
    · skip
      have hoX : (mRes D C o N2 o) 3 = nI o := (mRes_k (by decide) o).trans ho2
      refine g_iload_n (v := nI o) cx dX9_cycleOnce_85 rfl ?_
      refine g_aload_n (v := ad 0) cx dX9_cycleOnce_86 rfl ?_
      refine g_get (v := .ref (ad 1)) cx fk_X9_7 dX9_cycleOnce_87 0 rfl rfl ?_
      refine g_iconst (v := 3) cx dX9_cycleOnce_90 (by decide) ?_
      refine g_iald cx dX9_cycleOnce_91 1 3 rfl (nl 3) (by omega) (by first | decide | omega) ?_
      refine g_top (y := (mRes D C o N2 o) 3) (rfl) ?_
      refine g_icmp_ge cx 135 dX9_cycleOnce_92 (by decide) (fun hw16 => ?_) (fun hw16 => absurd (rf_geMP rfl hoX (by omega) (by omega) (by omega)) hw16)
      refine g_aload_n (v := ad 0) cx dX9_cycleOnce_135 rfl ?_
      refine g_get (v := .ref (ad 1)) cx fk_X9_7 dX9_cycleOnce_136 0 rfl rfl ?_
      refine g_iconst (v := 4) cx dX9_cycleOnce_139 (by decide) ?_
      refine g_iconst (v := 1) cx dX9_cycleOnce_140 (by decide) ?_
      refine g_iast (ws' := wMo V ad (upd (mRes D C o N2 o) 4 1) rw ps im kp tx sw sv D C P E fa ao al de le ax ta ts tv se il) cx dX9_cycleOnce_141 1 4 rfl (nl 4) (by omega) (by first | decide | omega) rfl ?_
      refine g_aload_n (v := ad 0) cx dX9_cycleOnce_142 rfl ?_
      refine g_get (v := .ref (ad 1)) cx fk_X9_7 dX9_cycleOnce_143 0 rfl rfl ?_
      refine g_bipush (v := 8) cx dX9_cycleOnce_146 (by decide) ?_
      refine g_iconst (v := 0) cx dX9_cycleOnce_148 (by decide) ?_
      refine g_iast (ws' := wMo V ad (upd (upd (mRes D C o N2 o) 4 1) 8 0) rw ps im kp tx sw sv D C P E fa ao al de le ax ta ts tv se il) cx dX9_cycleOnce_149 1 8 rfl (nl 8) (by omega) (by first | decide | omega) rfl ?_
      refine g_aload_n (v := ad 0) cx dX9_cycleOnce_150 rfl ?_
      refine g_get (v := .ref (ad 1)) cx fk_X9_7 dX9_cycleOnce_151 0 rfl rfl ?_
      refine g_bipush (v := 7) cx dX9_cycleOnce_154 (by decide) ?_
      refine g_dup2 cx dX9_cycleOnce_156 rfl rfl ?_
      refine g_iald cx dX9_cycleOnce_157 1 7 rfl (nl 7) (by omega) (by first | decide | omega) ?_
      refine g_top (y := (upd (upd (mRes D C o N2 o) 4 1) 8 0) 7) (rfl) ?_
      refine g_iconst (v := 1) cx dX9_cycleOnce_158 (by decide) ?_
      refine g_iadd cx dX9_cycleOnce_159 ?_
      refine g_iast (ws' := wMo V ad (upd (upd (upd (mRes D C o N2 o) 4 1) 8 0) 7 (((upd (upd (mRes D C o N2 o) 4 1) 8 0) 7) + 1)) rw ps im kp tx sw sv D C P E fa ao al de le ax ta ts tv se il) cx dX9_cycleOnce_160 1 7 rfl (nl 7) (by omega) (by first | decide | omega) rfl ?_
      have eE : mEnd (mRes D C o N2 o) = (upd (upd (upd (mRes D C o N2 o) 4 1) 8 0) 7 (((upd (upd (mRes D C o N2 o) 4 1) 8 0) 7) + 1)) := rfl
      rw [eE] at hret
      have hn4 : (upd (upd (upd (mRes D C o N2 o) 4 1) 8 0) 7 (((upd (upd (mRes D C o N2 o) 4 1) 8 0) 7) + 1)) 0 = nI n := by rw [← eE, mEnd_k (by decide) (by decide) (by decide), mRes_k (by decide)]; exact hn2
      clear eE
      generalize (upd (upd (upd (mRes D C o N2 o) 4 1) 8 0) 7 (((upd (upd (mRes D C o N2 o) 4 1) 8 0) 7) + 1)) = N4 at hret hn4 ⊢
      refine g_iconst (v := 0) cx dX9_cycleOnce_161 (by decide) ?_
      refine g_istore_n (lv' := [(0, .ref (ad 0)), (1, .int 0)]) cx dX9_cycleOnce_162 (by decide) rfl ?_
      refine rf_dn (P := fun i => G V K 4 0 0 (wMo V ad (mTick E i N4) rw ps im kp tx sw sv D C P E fa ao al de le ax ta ts tv se il) 163 [(0, .ref (ad 0)), (1, .int (nI i))] []) (n) (fun i hi ihi => ?_) ?_
      · skip
        have hin : i < n := hi
        have e1 : mTick E (i + 1) N4 = mTk E i (mTick E i N4) := rfl
        rw [e1] at ihi
        clear e1
        have hk4 : mKeep N4 (mTick E i N4) := mTick_keep i (by omega)
        generalize mTick E i N4 = N5 at ihi hk4 ⊢
        have hn5 : N5 0 = nI n := (hk4 0 (Or.inl (by decide))).trans hn4
        refine g_iload_n (v := nI i) cx dX9_cycleOnce_163 rfl ?_
        refine g_aload_n (v := ad 0) cx dX9_cycleOnce_164 rfl ?_
        refine g_get (v := .ref (ad 1)) cx fk_X9_7 dX9_cycleOnce_165 0 rfl rfl ?_
        refine g_iconst (v := 0) cx dX9_cycleOnce_168 (by decide) ?_
        refine g_iald cx dX9_cycleOnce_169 1 0 rfl (nl 0) (by omega) (by first | decide | omega) ?_
        refine g_top (y := N5 0) (rfl) ?_
        refine g_icmp_ge cx 281 dX9_cycleOnce_170 (by decide) (fun hw17 => absurd hw17 (rf_geMN rfl hn5 (by omega) (by omega) (by omega))) (fun hw17 => ?_)
        refine g_bipush (v := 17) cx dX9_cycleOnce_173 (by decide) ?_
        refine g_bipush (v := 9) cx dX9_cycleOnce_175 (by decide) ?_
        refine g_iload_n (v := nI i) cx dX9_cycleOnce_177 rfl ?_
        refine g_imul cx dX9_cycleOnce_178 ?_
        refine g_iadd cx dX9_cycleOnce_179 ?_
        refine g_istore_n (lv' := [(0, .ref (ad 0)), (1, .int (nI i)), (2, .int (17 + (9 * (nI i))))]) cx dX9_cycleOnce_180 (by decide) rfl ?_
        refine g_aload_n (v := ad 0) cx dX9_cycleOnce_181 rfl ?_
        refine g_get (v := .ref (ad 1)) cx fk_X9_7 dX9_cycleOnce_182 0 rfl rfl ?_
        refine g_iload_n (v := 17 + (9 * (nI i))) cx dX9_cycleOnce_185 rfl ?_
        refine g_iconst (v := 5) cx dX9_cycleOnce_186 (by decide) ?_
        refine g_iadd cx dX9_cycleOnce_187 ?_
        refine g_aload_n (v := ad 0) cx dX9_cycleOnce_188 rfl ?_
        refine g_get (v := .ref (ad 12)) cx fk_X9_44 dX9_cycleOnce_189 0 rfl rfl ?_
        refine g_iload_n (v := nI i) cx dX9_cycleOnce_192 rfl ?_
        refine g_zald cx dX9_cycleOnce_193 12 i rfl (rfl) (by omega) (by first | decide | omega) ?_
        refine g_top (y := E i) (rfl) ?_
        refine g_if_eq cx 201 dX9_cycleOnce_194 (by decide) (fun hw18 => ?_) (fun hw18 => ?_)
        · skip
          refine g_aload_n (v := ad 0) cx dX9_cycleOnce_201 rfl ?_
          refine g_get (v := .ref (ad 1)) cx fk_X9_7 dX9_cycleOnce_202 0 rfl rfl ?_
          refine g_iload_n (v := 17 + (9 * (nI i))) cx dX9_cycleOnce_205 rfl ?_
          refine g_iconst (v := 5) cx dX9_cycleOnce_206 (by decide) ?_
          refine g_iadd cx dX9_cycleOnce_207 ?_
          refine g_iald cx dX9_cycleOnce_208 1 ((17 + (9 * i)) + 5) rfl (rf_add (rf_add (nl 17) (rf_mul (nl 9) rfl)) (nl 5)) (by omega) (by first | decide | omega) ?_
          refine g_top (y := N5 ((17 + (9 * i)) + 5)) (rfl) ?_
          refine g_iconst (v := 1) cx dX9_cycleOnce_209 (by decide) ?_
          refine g_iadd cx dX9_cycleOnce_210 ?_
          refine g_iast (ws' := wMo V ad (upd N5 ((17 + (9 * i)) + 5) ((N5 ((17 + (9 * i)) + 5)) + 1)) rw ps im kp tx sw sv D C P E fa ao al de le ax ta ts tv se il) cx dX9_cycleOnce_211 1 ((17 + (9 * i)) + 5) rfl (rf_add (rf_add (nl 17) (rf_mul (nl 9) rfl)) (nl 5)) (by omega) (by first | decide | omega) rfl ?_
          refine g_aload_n (v := ad 0) cx dX9_cycleOnce_212 rfl ?_
          refine g_get (v := .ref (ad 1)) cx fk_X9_7 dX9_cycleOnce_213 0 rfl rfl ?_
          refine g_iload_n (v := 17 + (9 * (nI i))) cx dX9_cycleOnce_216 rfl ?_
          refine g_iconst (v := 5) cx dX9_cycleOnce_217 (by decide) ?_
          refine g_iadd cx dX9_cycleOnce_218 ?_
          refine g_iald cx dX9_cycleOnce_219 1 ((17 + (9 * i)) + 5) rfl (rf_add (rf_add (nl 17) (rf_mul (nl 9) rfl)) (nl 5)) (by omega) (by first | decide | omega) ?_
          refine g_top (y := (upd N5 ((17 + (9 * i)) + 5) ((N5 ((17 + (9 * i)) + 5)) + 1)) ((17 + (9 * i)) + 5)) (rfl) ?_
          refine g_aload_n (v := ad 0) cx dX9_cycleOnce_220 rfl ?_
          refine g_get (v := .ref (ad 1)) cx fk_X9_7 dX9_cycleOnce_221 0 rfl rfl ?_
          refine g_iconst (v := 2) cx dX9_cycleOnce_224 (by decide) ?_
          refine g_iald cx dX9_cycleOnce_225 1 2 rfl (nl 2) (by omega) (by first | decide | omega) ?_
          refine g_top (y := (upd N5 ((17 + (9 * i)) + 5) ((N5 ((17 + (9 * i)) + 5)) + 1)) 2) (rfl) ?_
          refine g_icmp_lt cx 275 dX9_cycleOnce_226 (by decide) (fun hw19 => ?_) (fun hw19 => ?_)
          · skip
            refine g_iinc (x := nI i) (v := nI (i + 1)) (lv' := [(0, .ref (ad 0)), (1, .int (nI (i + 1))), (2, .int (17 + (9 * (nI i))))]) cx dX9_cycleOnce_275 rfl (by decide) (nI_add _ _) rfl ?_
            refine g_goto cx 163 dX9_cycleOnce_278 (by decide) ?_
            refine g_lvk (lv' := [(0, .ref (ad 0)), (1, .int (nI (i + 1)))]) [0, 1] rfl ?_
            rw [mTk, mTk1, if_pos hw18, if_pos hw19] at ihi
            exact ihi
          · skip
            refine g_aload_n (v := ad 0) cx dX9_cycleOnce_229 rfl ?_
            refine g_get (v := .ref (ad 1)) cx fk_X9_7 dX9_cycleOnce_230 0 rfl rfl ?_
            refine g_iload_n (v := 17 + (9 * (nI i))) cx dX9_cycleOnce_233 rfl ?_
            refine g_bipush (v := 6) cx dX9_cycleOnce_234 (by decide) ?_
            refine g_iadd cx dX9_cycleOnce_236 ?_
            refine g_iald cx dX9_cycleOnce_237 1 ((17 + (9 * i)) + 6) rfl (rf_add (rf_add (nl 17) (rf_mul (nl 9) rfl)) (nl 6)) (by omega) (by first | decide | omega) ?_
            refine g_top (y := (upd N5 ((17 + (9 * i)) + 5) ((N5 ((17 + (9 * i)) + 5)) + 1)) ((17 + (9 * i)) + 6)) (rfl) ?_
            refine g_if_ne cx 275 dX9_cycleOnce_238 (by decide) (fun hw20 => ?_) (fun hw20 => ?_)
            · skip
              refine g_iinc (x := nI i) (v := nI (i + 1)) (lv' := [(0, .ref (ad 0)), (1, .int (nI (i + 1))), (2, .int (17 + (9 * (nI i))))]) cx dX9_cycleOnce_275 rfl (by decide) (nI_add _ _) rfl ?_
              refine g_goto cx 163 dX9_cycleOnce_278 (by decide) ?_
              refine g_lvk (lv' := [(0, .ref (ad 0)), (1, .int (nI (i + 1)))]) [0, 1] rfl ?_
              rw [mTk, mTk1, if_pos hw18, if_neg hw19, if_neg hw20] at ihi
              exact ihi
            · skip
              refine g_aload_n (v := ad 0) cx dX9_cycleOnce_241 rfl ?_
              refine g_get (v := .ref (ad 1)) cx fk_X9_7 dX9_cycleOnce_242 0 rfl rfl ?_
              refine g_iload_n (v := 17 + (9 * (nI i))) cx dX9_cycleOnce_245 rfl ?_
              refine g_bipush (v := 6) cx dX9_cycleOnce_246 (by decide) ?_
              refine g_iadd cx dX9_cycleOnce_248 ?_
              refine g_iconst (v := 1) cx dX9_cycleOnce_249 (by decide) ?_
              refine g_iast (ws' := wMo V ad (upd (upd N5 ((17 + (9 * i)) + 5) ((N5 ((17 + (9 * i)) + 5)) + 1)) ((17 + (9 * i)) + 6) 1) rw ps im kp tx sw sv D C P E fa ao al de le ax ta ts tv se il) cx dX9_cycleOnce_250 1 ((17 + (9 * i)) + 6) rfl (rf_add (rf_add (nl 17) (rf_mul (nl 9) rfl)) (nl 6)) (by omega) (by first | decide | omega) rfl ?_
              refine g_iconst (v := 0) cx dX9_cycleOnce_251 (by decide) ?_
              refine g_istore_n (lv' := [(0, .ref (ad 0)), (1, .int (nI i)), (2, .int (17 + (9 * (nI i)))), (3, .int 0)]) cx dX9_cycleOnce_252 (by decide) rfl ?_
              refine rf_dn (P := fun kk => G V K 4 0 0 (wMo V ad (fl (fun k N => upd N (17 + 9 * i + 1 + k) 0) kk (upd (upd N5 ((17 + (9 * i)) + 5) ((N5 ((17 + (9 * i)) + 5)) + 1)) ((17 + (9 * i)) + 6) 1)) rw ps im kp tx sw sv D C P E fa ao al de le ax ta ts tv se il) 253 [(0, .ref (ad 0)), (1, .int (nI i)), (2, .int (17 + (9 * (nI i)))), (3, .int (nI kk))] []) (4) (fun kk hkk ihkk => ?_) ?_
              · skip
                have h4 : kk < 4 := hkk
                refine g_iload_n (v := nI kk) cx dX9_cycleOnce_253 rfl ?_
                refine g_iconst (v := 4) cx dX9_cycleOnce_254 (by decide) ?_
                refine g_icmp_ge cx 275 dX9_cycleOnce_255 (by decide) (fun hw21 => absurd hw21 (rf_geMN rfl (nl 4) (by omega) (by omega) (by omega))) (fun hw21 => ?_)
                refine g_aload_n (v := ad 0) cx dX9_cycleOnce_258 rfl ?_
                refine g_get (v := .ref (ad 1)) cx fk_X9_7 dX9_cycleOnce_259 0 rfl rfl ?_
                refine g_iload_n (v := 17 + (9 * (nI i))) cx dX9_cycleOnce_262 rfl ?_
                refine g_iconst (v := 1) cx dX9_cycleOnce_263 (by decide) ?_
                refine g_iadd cx dX9_cycleOnce_264 ?_
                refine g_iload_n (v := nI kk) cx dX9_cycleOnce_265 rfl ?_
                refine g_iadd cx dX9_cycleOnce_266 ?_
                refine g_iconst (v := 0) cx dX9_cycleOnce_267 (by decide) ?_
                refine g_iast (ws' := wMo V ad (upd (fl (fun k N => upd N (17 + 9 * i + 1 + k) 0) kk (upd (upd N5 ((17 + (9 * i)) + 5) ((N5 ((17 + (9 * i)) + 5)) + 1)) ((17 + (9 * i)) + 6) 1)) (((17 + (9 * i)) + 1) + kk) 0) rw ps im kp tx sw sv D C P E fa ao al de le ax ta ts tv se il) cx dX9_cycleOnce_268 1 (((17 + (9 * i)) + 1) + kk) rfl (rf_add (rf_add (rf_add (nl 17) (rf_mul (nl 9) rfl)) (nl 1)) rfl) (by omega) (by first | decide | omega) rfl ?_
                refine g_iinc (x := nI kk) (v := nI (kk + 1)) (lv' := [(0, .ref (ad 0)), (1, .int (nI i)), (2, .int (17 + (9 * (nI i)))), (3, .int (nI (kk + 1)))]) cx dX9_cycleOnce_269 rfl (by decide) (nI_add _ _) rfl ?_
                refine g_goto cx 253 dX9_cycleOnce_272 (by decide) ?_
                exact ihkk
              · skip
                refine g_iload_n (v := nI 4) cx dX9_cycleOnce_253 rfl ?_
                refine g_iconst (v := 4) cx dX9_cycleOnce_254 (by decide) ?_
                refine g_icmp_ge cx 275 dX9_cycleOnce_255 (by decide) (fun hw22 => ?_) (fun hw22 => absurd (rf_geMP rfl (nl 4) (by omega) (by omega) (by omega)) hw22)
                refine g_iinc (x := nI i) (v := nI (i + 1)) (lv' := [(0, .ref (ad 0)), (1, .int (nI (i + 1))), (2, .int (17 + (9 * (nI i)))), (3, .int (nI 4))]) cx dX9_cycleOnce_275 rfl (by decide) (nI_add _ _) rfl ?_
                refine g_goto cx 163 dX9_cycleOnce_278 (by decide) ?_
                refine g_lvk (lv' := [(0, .ref (ad 0)), (1, .int (nI (i + 1)))]) [0, 1] rfl ?_
                rw [mTk, mTk1, if_pos hw18, if_neg hw19, if_pos hw20] at ihi
                exact ihi
        · skip
          refine g_iconst (v := 0) cx dX9_cycleOnce_197 (by decide) ?_
          refine g_goto cx 211 dX9_cycleOnce_198 (by decide) ?_
          refine g_iast (ws' := wMo V ad (upd N5 ((17 + (9 * i)) + 5) 0) rw ps im kp tx sw sv D C P E fa ao al de le ax ta ts tv se il) cx dX9_cycleOnce_211 1 ((17 + (9 * i)) + 5) rfl (rf_add (rf_add (nl 17) (rf_mul (nl 9) rfl)) (nl 5)) (by omega) (by first | decide | omega) rfl ?_
          refine g_aload_n (v := ad 0) cx dX9_cycleOnce_212 rfl ?_
          refine g_get (v := .ref (ad 1)) cx fk_X9_7 dX9_cycleOnce_213 0 rfl rfl ?_
          refine g_iload_n (v := 17 + (9 * (nI i))) cx dX9_cycleOnce_216 rfl ?_
          refine g_iconst (v := 5) cx dX9_cycleOnce_217 (by decide) ?_
          refine g_iadd cx dX9_cycleOnce_218 ?_
          refine g_iald cx dX9_cycleOnce_219 1 ((17 + (9 * i)) + 5) rfl (rf_add (rf_add (nl 17) (rf_mul (nl 9) rfl)) (nl 5)) (by omega) (by first | decide | omega) ?_
          refine g_top (y := (upd N5 ((17 + (9 * i)) + 5) 0) ((17 + (9 * i)) + 5)) (rfl) ?_
          refine g_aload_n (v := ad 0) cx dX9_cycleOnce_220 rfl ?_
          refine g_get (v := .ref (ad 1)) cx fk_X9_7 dX9_cycleOnce_221 0 rfl rfl ?_
          refine g_iconst (v := 2) cx dX9_cycleOnce_224 (by decide) ?_
          refine g_iald cx dX9_cycleOnce_225 1 2 rfl (nl 2) (by omega) (by first | decide | omega) ?_
          refine g_top (y := (upd N5 ((17 + (9 * i)) + 5) 0) 2) (rfl) ?_
          refine g_icmp_lt cx 275 dX9_cycleOnce_226 (by decide) (fun hw23 => ?_) (fun hw23 => ?_)
          · skip
            refine g_iinc (x := nI i) (v := nI (i + 1)) (lv' := [(0, .ref (ad 0)), (1, .int (nI (i + 1))), (2, .int (17 + (9 * (nI i))))]) cx dX9_cycleOnce_275 rfl (by decide) (nI_add _ _) rfl ?_
            refine g_goto cx 163 dX9_cycleOnce_278 (by decide) ?_
            refine g_lvk (lv' := [(0, .ref (ad 0)), (1, .int (nI (i + 1)))]) [0, 1] rfl ?_
            rw [mTk, mTk1, if_neg hw18, if_pos hw23] at ihi
            exact ihi
          · skip
            refine g_aload_n (v := ad 0) cx dX9_cycleOnce_229 rfl ?_
            refine g_get (v := .ref (ad 1)) cx fk_X9_7 dX9_cycleOnce_230 0 rfl rfl ?_
            refine g_iload_n (v := 17 + (9 * (nI i))) cx dX9_cycleOnce_233 rfl ?_
            refine g_bipush (v := 6) cx dX9_cycleOnce_234 (by decide) ?_
            refine g_iadd cx dX9_cycleOnce_236 ?_
            refine g_iald cx dX9_cycleOnce_237 1 ((17 + (9 * i)) + 6) rfl (rf_add (rf_add (nl 17) (rf_mul (nl 9) rfl)) (nl 6)) (by omega) (by first | decide | omega) ?_
            refine g_top (y := (upd N5 ((17 + (9 * i)) + 5) 0) ((17 + (9 * i)) + 6)) (rfl) ?_
            refine g_if_ne cx 275 dX9_cycleOnce_238 (by decide) (fun hw24 => ?_) (fun hw24 => ?_)
            · skip
              refine g_iinc (x := nI i) (v := nI (i + 1)) (lv' := [(0, .ref (ad 0)), (1, .int (nI (i + 1))), (2, .int (17 + (9 * (nI i))))]) cx dX9_cycleOnce_275 rfl (by decide) (nI_add _ _) rfl ?_
              refine g_goto cx 163 dX9_cycleOnce_278 (by decide) ?_
              refine g_lvk (lv' := [(0, .ref (ad 0)), (1, .int (nI (i + 1)))]) [0, 1] rfl ?_
              rw [mTk, mTk1, if_neg hw18, if_neg hw23, if_neg hw24] at ihi
              exact ihi
            · skip
              refine g_aload_n (v := ad 0) cx dX9_cycleOnce_241 rfl ?_
              refine g_get (v := .ref (ad 1)) cx fk_X9_7 dX9_cycleOnce_242 0 rfl rfl ?_
              refine g_iload_n (v := 17 + (9 * (nI i))) cx dX9_cycleOnce_245 rfl ?_
              refine g_bipush (v := 6) cx dX9_cycleOnce_246 (by decide) ?_
              refine g_iadd cx dX9_cycleOnce_248 ?_
              refine g_iconst (v := 1) cx dX9_cycleOnce_249 (by decide) ?_
              refine g_iast (ws' := wMo V ad (upd (upd N5 ((17 + (9 * i)) + 5) 0) ((17 + (9 * i)) + 6) 1) rw ps im kp tx sw sv D C P E fa ao al de le ax ta ts tv se il) cx dX9_cycleOnce_250 1 ((17 + (9 * i)) + 6) rfl (rf_add (rf_add (nl 17) (rf_mul (nl 9) rfl)) (nl 6)) (by omega) (by first | decide | omega) rfl ?_
              refine g_iconst (v := 0) cx dX9_cycleOnce_251 (by decide) ?_
              refine g_istore_n (lv' := [(0, .ref (ad 0)), (1, .int (nI i)), (2, .int (17 + (9 * (nI i)))), (3, .int 0)]) cx dX9_cycleOnce_252 (by decide) rfl ?_
              refine rf_dn (P := fun kk => G V K 4 0 0 (wMo V ad (fl (fun k N => upd N (17 + 9 * i + 1 + k) 0) kk (upd (upd N5 ((17 + (9 * i)) + 5) 0) ((17 + (9 * i)) + 6) 1)) rw ps im kp tx sw sv D C P E fa ao al de le ax ta ts tv se il) 253 [(0, .ref (ad 0)), (1, .int (nI i)), (2, .int (17 + (9 * (nI i)))), (3, .int (nI kk))] []) (4) (fun kk hkk ihkk => ?_) ?_
              · skip
                have h4 : kk < 4 := hkk
                refine g_iload_n (v := nI kk) cx dX9_cycleOnce_253 rfl ?_
                refine g_iconst (v := 4) cx dX9_cycleOnce_254 (by decide) ?_
                refine g_icmp_ge cx 275 dX9_cycleOnce_255 (by decide) (fun hw25 => absurd hw25 (rf_geMN rfl (nl 4) (by omega) (by omega) (by omega))) (fun hw25 => ?_)
                refine g_aload_n (v := ad 0) cx dX9_cycleOnce_258 rfl ?_
                refine g_get (v := .ref (ad 1)) cx fk_X9_7 dX9_cycleOnce_259 0 rfl rfl ?_
                refine g_iload_n (v := 17 + (9 * (nI i))) cx dX9_cycleOnce_262 rfl ?_
                refine g_iconst (v := 1) cx dX9_cycleOnce_263 (by decide) ?_
                refine g_iadd cx dX9_cycleOnce_264 ?_
                refine g_iload_n (v := nI kk) cx dX9_cycleOnce_265 rfl ?_
                refine g_iadd cx dX9_cycleOnce_266 ?_
                refine g_iconst (v := 0) cx dX9_cycleOnce_267 (by decide) ?_
                refine g_iast (ws' := wMo V ad (upd (fl (fun k N => upd N (17 + 9 * i + 1 + k) 0) kk (upd (upd N5 ((17 + (9 * i)) + 5) 0) ((17 + (9 * i)) + 6) 1)) (((17 + (9 * i)) + 1) + kk) 0) rw ps im kp tx sw sv D C P E fa ao al de le ax ta ts tv se il) cx dX9_cycleOnce_268 1 (((17 + (9 * i)) + 1) + kk) rfl (rf_add (rf_add (rf_add (nl 17) (rf_mul (nl 9) rfl)) (nl 1)) rfl) (by omega) (by first | decide | omega) rfl ?_
                refine g_iinc (x := nI kk) (v := nI (kk + 1)) (lv' := [(0, .ref (ad 0)), (1, .int (nI i)), (2, .int (17 + (9 * (nI i)))), (3, .int (nI (kk + 1)))]) cx dX9_cycleOnce_269 rfl (by decide) (nI_add _ _) rfl ?_
                refine g_goto cx 253 dX9_cycleOnce_272 (by decide) ?_
                exact ihkk
              · skip
                refine g_iload_n (v := nI 4) cx dX9_cycleOnce_253 rfl ?_
                refine g_iconst (v := 4) cx dX9_cycleOnce_254 (by decide) ?_
                refine g_icmp_ge cx 275 dX9_cycleOnce_255 (by decide) (fun hw26 => ?_) (fun hw26 => absurd (rf_geMP rfl (nl 4) (by omega) (by omega) (by omega)) hw26)
                refine g_iinc (x := nI i) (v := nI (i + 1)) (lv' := [(0, .ref (ad 0)), (1, .int (nI (i + 1))), (2, .int (17 + (9 * (nI i)))), (3, .int (nI 4))]) cx dX9_cycleOnce_275 rfl (by decide) (nI_add _ _) rfl ?_
                refine g_goto cx 163 dX9_cycleOnce_278 (by decide) ?_
                refine g_lvk (lv' := [(0, .ref (ad 0)), (1, .int (nI (i + 1)))]) [0, 1] rfl ?_
                rw [mTk, mTk1, if_neg hw18, if_neg hw23, if_pos hw24] at ihi
                exact ihi
      · skip
        have hnX : (mTick E n N4) 0 = nI n := (mTick_keep n hn6 0 (Or.inl (by decide))).trans hn4
        refine g_iload_n (v := nI n) cx dX9_cycleOnce_163 rfl ?_
        refine g_aload_n (v := ad 0) cx dX9_cycleOnce_164 rfl ?_
        refine g_get (v := .ref (ad 1)) cx fk_X9_7 dX9_cycleOnce_165 0 rfl rfl ?_
        refine g_iconst (v := 0) cx dX9_cycleOnce_168 (by decide) ?_
        refine g_iald cx dX9_cycleOnce_169 1 0 rfl (nl 0) (by omega) (by first | decide | omega) ?_
        refine g_top (y := (mTick E n N4) 0) (rfl) ?_
        refine g_icmp_ge cx 281 dX9_cycleOnce_170 (by decide) (fun hw27 => ?_) (fun hw27 => absurd (rf_geMP rfl hnX (by omega) (by omega) (by omega)) hw27)
        exact hret _ _ _ dX9_cycleOnce_281 (rfl)
def rm_X9_note : Room := { frames := 1, cells := 0, slots := 0, locals := 24 }
set_option maxRecDepth 100000 in
set_option maxHeartbeats 4000000 in
theorem c_X9_note (V : VT) (ad : Nat → Nat) (nw rw ps im kp tx sw sv da co pl me fa ao al : Nat → Int32) (le ax ta ts tv se il : Int32) (s : Nat) (hs6 : s ≤ 6) : CV V yX9_note cX9_note 2 rm_X9_note [.ref (ad 0)] (wMo V ad nw rw ps im kp tx sw sv da co pl me fa ao al (nI s) le ax ta ts tv se il) (fun w_ => w_ = wMo V ad nw rw (mNo nw ps s) im kp tx sw sv da co pl me fa ao al (nI (hsz s)) le ax ta ts tv se il) := by
  refine CV_intro (by decide) (Nat.le_of_ble_eq_true rfl) (fun K cx hci hret => ?_)
  show G V K 2 0 0 (wMo V ad nw rw ps im kp tx sw sv da co pl me fa ao al (nI s) le ax ta ts tv se il) 0 [(0, .ref (ad 0))] []
  refine g_aload_n (v := ad 0) cx dX9_note_0 rfl ?_
  refine g_get (v := .int (nI s)) cx fk_X9_164 dX9_note_1 0 rfl rfl ?_
  refine g_bipush (v := 6) cx dX9_note_4 (by decide) ?_
  refine g_icmp_ne cx 49 dX9_note_6 (by decide) (fun hw1 => ?_) (fun hw1 => ?_)
  · have hw1 := rf_eqN rfl (nl 6) (by omega) (by omega) hw1
    refine g_aload_n (v := ad 0) cx dX9_note_49 rfl ?_
    refine g_get (v := .ref (ad 1)) cx fk_X9_7 dX9_note_50 0 rfl rfl ?_
    refine g_iconst (v := 0) cx dX9_note_53 (by decide) ?_
    refine g_aload_n (v := ad 0) cx dX9_note_54 rfl ?_
    refine g_get (v := .ref (ad 3)) cx fk_X9_16 dX9_note_55 0 rfl rfl ?_
    refine g_bipush (v := 99) cx dX9_note_58 (by decide) ?_
    refine g_aload_n (v := ad 0) cx dX9_note_60 rfl ?_
    refine g_get (v := .int (nI s)) cx fk_X9_164 dX9_note_61 0 rfl rfl ?_
    refine g_imul cx dX9_note_64 ?_
    refine k_callsv (ws' := wMo V ad nw rw (brg nw ps 0 (99 * s) 99) im kp tx sw sv da co pl me fa ao al (nI s) le ax ta ts tv se il) (As := [.ref (ad 1), .int 0, .ref (ad 3), .int (99 * (nI s))]) (rest := []) cx (c_X9_bring V (ad 1) (ad 3) 99 594 nw ps 0 (99 * (nI s)) 0 (99 * s) (nl 0) (rf_mul (nl 99) rfl) (by omega) (by omega) (by decide) (by decide)) ml_X9_59 dX9_note_65 [1, 3] rfl rfl [ad 1, ad 3] rfl rfl rfl rfl rfl (Nat.le_of_ble_eq_true rfl) ⟨Nat.le_of_ble_eq_true rfl, Nat.le_of_ble_eq_true rfl⟩ ⟨Nat.le_refl _, Nat.le_refl _⟩ ?_
    refine g_aload_n (v := ad 0) cx dX9_note_68 rfl ?_
    refine g_dup cx dX9_note_69 rfl ?_
    refine g_get (v := .int (nI s)) cx fk_X9_164 dX9_note_70 0 rfl rfl ?_
    refine g_iconst (v := 1) cx dX9_note_73 (by decide) ?_
    refine g_iadd cx dX9_note_74 ?_
    refine g_top (y := nI (s + 1)) (nI_1 s) ?_
    refine g_put (ws' := wMo V ad nw rw (brg nw ps 0 (99 * s) 99) im kp tx sw sv da co pl me fa ao al (nI (s + 1)) le ax ta ts tv se il) cx fk_X9_164 dX9_note_75 0 rfl (rfl) (rfl) (Nat.le_of_ble_eq_true rfl) rfl ?_
    exact hret _ _ _ dX9_note_78 (by rw [mNo, if_neg hw1, hsz, if_neg (by omega)])
  · have hw1 := rf_eqP rfl (nl 6) (by omega) (by omega) hw1
    refine g_iconst (v := 0) cx dX9_note_9 (by decide) ?_
    refine g_istore_n (lv' := [(0, .ref (ad 0)), (1, .int 0)]) cx dX9_note_10 (by decide) rfl ?_
    refine rf_dn (P := fun k => G V K 2 0 0 (wMo V ad nw rw (mSh ps k) im kp tx sw sv da co pl me fa ao al (nI s) le ax ta ts tv se il) 11 [(0, .ref (ad 0)), (1, .int (nI k))] []) (495) (fun k hk ihk => ?_) ?_
    · skip
      have h495 : k < 495 := hk
      refine g_iload_n (v := nI k) cx dX9_note_11 rfl ?_
      refine g_sipush (v := 495) cx dX9_note_12 (by decide) ?_
      refine g_icmp_ge cx 39 dX9_note_15 (by decide) (fun hw2 => absurd hw2 (rf_geMN rfl (nl 495) (by omega) (by omega) (by omega))) (fun hw2 => ?_)
      refine g_aload_n (v := ad 0) cx dX9_note_18 rfl ?_
      refine g_get (v := .ref (ad 3)) cx fk_X9_16 dX9_note_19 0 rfl rfl ?_
      refine g_iload_n (v := nI k) cx dX9_note_22 rfl ?_
      refine g_aload_n (v := ad 0) cx dX9_note_23 rfl ?_
      refine g_get (v := .ref (ad 3)) cx fk_X9_16 dX9_note_24 0 rfl rfl ?_
      refine g_iload_n (v := nI k) cx dX9_note_27 rfl ?_
      refine g_bipush (v := 99) cx dX9_note_28 (by decide) ?_
      refine g_iadd cx dX9_note_30 ?_
      refine g_iald cx dX9_note_31 3 (k + 99) rfl (rf_add rfl (nl 99)) (by omega) (by first | decide | omega) ?_
      refine g_top (y := (mSh ps k) (k + 99)) (rfl) ?_
      refine g_iast (ws' := wMo V ad nw rw (upd (mSh ps k) k ((mSh ps k) (k + 99))) im kp tx sw sv da co pl me fa ao al (nI s) le ax ta ts tv se il) cx dX9_note_32 3 k rfl (rfl) (by omega) (by first | decide | omega) rfl ?_
      refine g_iinc (x := nI k) (v := nI (k + 1)) (lv' := [(0, .ref (ad 0)), (1, .int (nI (k + 1)))]) cx dX9_note_33 rfl (by decide) (nI_add _ _) rfl ?_
      refine g_goto cx 11 dX9_note_36 (by decide) ?_
      exact ihk
    · skip
      refine g_iload_n (v := nI 495) cx dX9_note_11 rfl ?_
      refine g_sipush (v := 495) cx dX9_note_12 (by decide) ?_
      refine g_icmp_ge cx 39 dX9_note_15 (by decide) (fun hw3 => ?_) (fun hw3 => absurd (rf_geMP rfl (nl 495) (by omega) (by omega) (by omega)) hw3)
      refine g_aload_n (v := ad 0) cx dX9_note_39 rfl ?_
      refine g_dup cx dX9_note_40 rfl ?_
      refine g_get (v := .int (nI s)) cx fk_X9_164 dX9_note_41 0 rfl rfl ?_
      refine g_iconst (v := 1) cx dX9_note_44 (by decide) ?_
      refine g_isub cx dX9_note_45 ?_
      refine g_top (y := nI 5) (by rw [hw1]; rfl) ?_
      refine g_put (ws' := wMo V ad nw rw (mSh ps 495) im kp tx sw sv da co pl me fa ao al (nI 5) le ax ta ts tv se il) cx fk_X9_164 dX9_note_46 0 rfl (rfl) (rfl) (Nat.le_of_ble_eq_true rfl) rfl ?_
      refine g_aload_n (v := ad 0) cx dX9_note_49 rfl ?_
      refine g_get (v := .ref (ad 1)) cx fk_X9_7 dX9_note_50 0 rfl rfl ?_
      refine g_iconst (v := 0) cx dX9_note_53 (by decide) ?_
      refine g_aload_n (v := ad 0) cx dX9_note_54 rfl ?_
      refine g_get (v := .ref (ad 3)) cx fk_X9_16 dX9_note_55 0 rfl rfl ?_
      refine g_bipush (v := 99) cx dX9_note_58 (by decide) ?_
      refine g_aload_n (v := ad 0) cx dX9_note_60 rfl ?_
      refine g_get (v := .int (nI 5)) cx fk_X9_164 dX9_note_61 0 rfl rfl ?_
      refine g_imul cx dX9_note_64 ?_
      refine k_callsv (ws' := wMo V ad nw rw (brg nw (mSh ps 495) 0 (99 * 5) 99) im kp tx sw sv da co pl me fa ao al (nI 5) le ax ta ts tv se il) (As := [.ref (ad 1), .int 0, .ref (ad 3), .int (99 * (nI 5))]) (rest := []) cx (c_X9_bring V (ad 1) (ad 3) 99 594 nw (mSh ps 495) 0 (99 * (nI 5)) 0 (99 * 5) (nl 0) (rf_mul (nl 99) rfl) (by omega) (by omega) (by decide) (by decide)) ml_X9_59 dX9_note_65 [1, 3] rfl rfl [ad 1, ad 3] rfl rfl rfl rfl rfl (Nat.le_of_ble_eq_true rfl) ⟨Nat.le_of_ble_eq_true rfl, Nat.le_of_ble_eq_true rfl⟩ ⟨Nat.le_refl _, Nat.le_refl _⟩ ?_
      refine g_aload_n (v := ad 0) cx dX9_note_68 rfl ?_
      refine g_dup cx dX9_note_69 rfl ?_
      refine g_get (v := .int (nI 5)) cx fk_X9_164 dX9_note_70 0 rfl rfl ?_
      refine g_iconst (v := 1) cx dX9_note_73 (by decide) ?_
      refine g_iadd cx dX9_note_74 ?_
      refine g_top (y := nI 6) (by decide) ?_
      refine g_put (ws' := wMo V ad nw rw (brg nw (mSh ps 495) 0 (99 * 5) 99) im kp tx sw sv da co pl me fa ao al (nI 6) le ax ta ts tv se il) cx fk_X9_164 dX9_note_75 0 rfl (rfl) (rfl) (Nat.le_of_ble_eq_true rfl) rfl ?_
      exact hret _ _ _ dX9_note_78 (by rw [mNo, if_pos hw1, hsz, if_pos (by omega)])
