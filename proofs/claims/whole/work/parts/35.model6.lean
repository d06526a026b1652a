abbrev M5 : Type := (Nat → Int32) × (Nat → Int32) × (Nat → Int32) × (Nat → Int32) × (Nat → Int32)
def mt (nw : Nat → Int32) (i : Nat) : Nat := (nw (71 + 5 * i + 3)).toNatClampNeg
def okAM (nw : Nat → Int32) (o : Nat) : Prop := ∀ i, i < o → nw (71 + 5 * i + 3) = nI (mt nw i) ∧ mt nw i ≤ 3
abbrev mIs (nw pl : Nat → Int32) (i d : Nat) : Prop := nw (71 + 5 * i + 1) = 98 ∨ (nw (71 + 5 * i + 1) = 115 ∧ nw (71 + 5 * i + 2) = nw (17 + 9 * d)) ∨ (nw (71 + 5 * i + 1) = 112 ∧ pl i = 0)
def mHn (nw da : Nat → Int32) (q i d : Nat) : Nat → Int32 := if nw (71 + 5 * i) = 114 then nw else upd nw (17 + 9 * d + 1 + mt nw i) (if nw (17 + 9 * d + 6) = 1 then nw (17 + 9 * d + 1 + mt nw i) else da (4 * q + i))
def mHd (nw da : Nat → Int32) (q i d : Nat) : Nat → Int32 := if nw (71 + 5 * i) = 114 then upd da (4 * q + i) (if nw (71 + 5 * i + 1) = 98 then da (4 * q + i) ||| nw (17 + 9 * d + 1 + mt nw i) else nw (17 + 9 * d + 1 + mt nw i)) else if nw (71 + 5 * i) = 119 then da else upd da (4 * q + i) (nw (17 + 9 * d + 1 + mt nw i))
def mHc (nw co : Nat → Int32) (q i d : Nat) : Nat → Int32 := if nw (71 + 5 * i) = 114 then upd co (4 * q + i) (co (4 * q + i) + 1) else if nw (71 + 5 * i) = 119 then upd co (4 * q + i) (co (4 * q + i) + (if nw (17 + 9 * d + 6) = 1 then 0 else 1)) else upd co (4 * q + i) (co (4 * q + i) + (if nw (17 + 9 * d + 6) = 1 then 1 else 3))
def mH (q d i : Nat) (s : M5) : M5 := if mIs s.1 s.2.2.2.1 i d then (mHn s.1 s.2.1 q i d, mHd s.1 s.2.1 q i d, mHc s.1 s.2.2.1 q i d, upd s.2.2.2.1 i (s.2.2.2.1 i - 1), upd s.2.2.2.2 d 1) else (s.1, s.2.1, s.2.2.1, upd s.2.2.2.1 i (s.2.2.2.1 i - 1), s.2.2.2.2)
def mPl (nw pl : Nat → Int32) (o : Nat) : Nat → Int32 := fl (fun i g => upd g i (nw (71 + 5 * i + 2))) o pl
def mDr (q o d : Nat) (s : M5) : M5 := fl (mH q d) o s
def mPass (q f l o : Nat) (s : M5) : M5 := fl (fun j s => mDr q o (f + j) s) l (s.1, s.2.1, s.2.2.1, mPl s.1 s.2.2.2.1 o, s.2.2.2.2)
def mKeep (nw N : Nat → Int32) : Prop := ∀ k, (k < 17 ∨ 71 ≤ k) → N k = nw k
theorem mKeep.rf {nw : Nat → Int32} : mKeep nw nw := fun _ _ => rfl
theorem mKeep.tr {a b c : Nat → Int32} (h : mKeep a b) (g : mKeep b c) : mKeep a c := fun k hk => (g k hk).trans (h k hk)
theorem mHn_keep {nw da : Nat → Int32} {q i d : Nat} (hd : d ≤ 5) (ht : mt nw i ≤ 3) : mKeep nw (mHn nw da q i d) := by
  unfold mHn
  split
  · exact mKeep.rf
  · intro k hk
    rw [pk_un (by omega)]
theorem mH_keep {q d i : Nat} {s : M5} (hd : d ≤ 5) (ht : mt s.1 i ≤ 3) : mKeep s.1 (mH q d i s).1 := by
  unfold mH
  split
  · exact mHn_keep hd ht
  · exact mKeep.rf
theorem mt_keep {nw N : Nat → Int32} (h : mKeep nw N) (i : Nat) : mt N i = mt nw i := by unfold mt; rw [h _ (Or.inr (by omega))]
theorem okAM.keep {nw N : Nat → Int32} {o : Nat} (h : okAM nw o) (k : mKeep nw N) : okAM N o := fun i hi => by
  rw [mt_keep k, k _ (Or.inr (by omega))]; exact h i hi
theorem mDr_keep {q o d : Nat} {s : M5} (hd : d ≤ 5) (h : okAM s.1 o) : ∀ i, i ≤ o → mKeep s.1 (fl (mH q d) i s).1
  | 0, _ => mKeep.rf
  | i + 1, hi => by
    have ih := mDr_keep (q := q) hd h i (by omega)
    exact ih.tr (mH_keep hd (by rw [mt_keep ih]; exact (h i (by omega)).2))
theorem mPass_keep {q o f : Nat} {s : M5} (h : okAM s.1 o) : ∀ l, f + l ≤ 6 → mKeep s.1 (fl (fun j s => mDr q o (f + j) s) l s).1
  | 0, _ => mKeep.rf
  | l + 1, hl => by
    have ih := mPass_keep (q := q) (f := f) h l (by omega)
    exact ih.tr (mDr_keep (by omega) (h.keep ih) o (Nat.le_refl o))
def mBd (nw da : Nat → Int32) (n : Nat) : Nat → Int32 := fl (fun k g => upd g k (nw (71 + 5 * (k % 4) + 4))) n da
def mBc (co : Nat → Int32) (n : Nat) : Nat → Int32 := fl (fun k g => upd g k 0) n co
theorem rem4 {k : Nat} (h : k < 8) : nI k - nI k / 4 * 4 = nI (k % 4) := by
  have h2 : ∀ k : Fin 8, nI k.val - nI k.val / 4 * 4 = nI (k.val % 4) := by decide
  exact h2 ⟨k, h⟩
def mBeg5 (nw da co pl me : Nat → Int32) : M5 := (nw, mBd nw da 8, mBc co 8, pl, rFill me 0 0 6)
def mSnd2 (n o : Nat) (c : Int32) (s : M5) : M5 := mPass 1 (mB s.1 c n) (n - mB s.1 c n) o s
def mSnd (n o : Nat) (c : Int32) (nw da co pl me : Nat → Int32) : M5 := mSnd2 n o c (mPass 0 0 (mA c n) o (mBeg5 nw da co pl me))
def mCnt (nw co : Nat → Int32) (o i : Nat) : Int32 := if i < o then co i + co (4 + i) else 0
def mDat (nw da co : Nat → Int32) (i : Nat) : Int32 := if nw (71 + 5 * i) = 114 ∧ nw (71 + 5 * i + 1) = 98 then da i ||| da (4 + i) else if co (4 + i) ≤ 0 then da i else da (4 + i)
def mFct (nw co fa : Nat → Int32) (c : Int32) (n o k : Nat) : Nat → Int32 := fl (fun i g => upd g i (if i < 4 then mCnt nw co o i else mTime nw c n (i - 4))) k fa
theorem mPass_k {q o f l : Nat} {s : M5} (h : okAM s.1 o) (hl : f + l ≤ 6) : mKeep s.1 (mPass q f l o s).1 := mPass_keep (s := (s.1, s.2.1, s.2.2.1, mPl s.1 s.2.2.2.1 o, s.2.2.2.2)) h l hl
theorem mB_keep {nw N : Nat → Int32} {c : Int32} {n : Nat} (h : mKeep nw N) : mB N c n = mB nw c n := by unfold mB; rw [h 1 (Or.inl (by decide))]
theorem okc.keep {nw N : Nat → Int32} {c : Int32} {n : Nat} (h : okc nw c n) (k : mKeep nw N) : okc N c n := by unfold okc; rw [k 1 (Or.inl (by decide))]; exact h
theorem mSnd_keep {n o : Nat} {c : Int32} {nw da co pl me : Nat → Int32} (h : okAM nw o) (hn : n ≤ 6) : mKeep nw (mSnd n o c nw da co pl me).1 := by
  have h1 : mKeep nw (mPass 0 0 (mA c n) o (mBeg5 nw da co pl me)).1 := mPass_k (s := mBeg5 nw da co pl me) h (by have := mA_le c n; omega)
  exact h1.tr (mPass_k (h.keep h1) (by have := mB_le (mPass 0 0 (mA c n) o (mBeg5 nw da co pl me)).1 c n; omega))
theorem brg_at {f g : Nat → Int32} {i j : Nat} : ∀ {n k : Nat}, brg f g i j n k = if j ≤ k ∧ k < j + n then f (i + (k - j)) else g k
  | 0, k => by rw [if_neg (by omega)]; rfl
  | n + 1, k => by
    show upd (brg f g i j n) (j + n) (f (i + n)) k = _
    by_cases h : k = j + n
    · subst h; rw [pk_us, if_pos (by omega), show j + n - j = n by omega]
    · rw [pk_un h, brg_at (n := n)]
      by_cases h2 : j ≤ k ∧ k < j + n
      · rw [if_pos h2, if_pos (by omega)]
      · rw [if_neg h2, if_neg (by omega)]
theorem upd_self {f : Nat → Int32} {k : Nat} : upd f k (f k) = f := by
  funext j
  by_cases h : j = k
  · subst h; exact pk_us
  · exact pk_un h
def rm_X9_handle : Room := { frames := 0, cells := 0, slots := 0, locals := 0 }
set_option maxRecDepth 100000 in
set_option maxHeartbeats 4000000 in
theorem c_X9_handle (V : VT) (ad : Nat → Nat) (nw rw ps im kp tx sw sv da co pl me fa ao al : Nat → Int32) (de le ax ta ts tv se il : Int32) (xq : Int32) (xi : Int32) (xd : Int32) (q : Nat) (i : Nat) (d : Nat) (hq : xq = nI q) (hi : xi = nI i) (hd : xd = nI d) (hq1 : q ≤ 1) (hi3 : i ≤ 3) (hd5 : d ≤ 5) (ht : nw (71 + 5 * i + 3) = nI (mt nw i)) (ht3 : mt nw i ≤ 3) : CV V yX9_handle cX9_handle 12 rm_X9_handle [.ref (ad 0), .int xq, .int xi, .int xd] (wMo V ad nw rw ps im kp tx sw sv da co pl me fa ao al de le ax ta ts tv se il) (fun w_ => w_ = wMo V ad ((mH q d i (nw, da, co, pl, me)).1) rw ps im kp tx sw sv ((mH q d i (nw, da, co, pl, me)).2.1) ((mH q d i (nw, da, co, pl, me)).2.2.1) ((mH q d i (nw, da, co, pl, me)).2.2.2.1) ((mH q d i (nw, da, co, pl, me)).2.2.2.2) fa ao al de le ax ta ts tv se il) := by
  refine CV_intro (by decide) (Nat.le_of_ble_eq_true rfl) (fun K cx hci hret => ?_)
  show G V K 12 0 0 (wMo V ad nw rw ps im kp tx sw sv da co pl me fa ao al de le ax ta ts tv se il) 0 [(0, .ref (ad 0)), (1, .int xq), (2, .int xi), (3, .int xd)] []
  refine g_bipush (v := 71) cx dX9_handle_0 (by decide) ?_
  refine g_iconst (v := 5) cx dX9_handle_2 (by decide) ?_
  refine g_iload_n (v := xi) cx dX9_handle_3 rfl ?_
  refine g_imul cx dX9_handle_4 ?_
  refine g_iadd cx dX9_handle_5 ?_
  refine g_istore (lv' := [(0, .ref (ad 0)), (1, .int xq), (2, .int xi), (3, .int xd), (4, .int (71 + (5 * xi)))]) cx dX9_handle_6 (by decide) rfl ?_
  refine g_bipush (v := 17) cx dX9_handle_8 (by decide) ?_
  refine g_bipush (v := 9) cx dX9_handle_10 (by decide) ?_
  refine g_iload_n (v := xd) cx dX9_handle_12 rfl ?_
  refine g_imul cx dX9_handle_13 ?_
  refine g_iadd cx dX9_handle_14 ?_
  refine g_istore (lv' := [(0, .ref (ad 0)), (1, .int xq), (2, .int xi), (3, .int xd), (4, .int (71 + (5 * xi))), (5, .int (17 + (9 * xd)))]) cx dX9_handle_15 (by decide) rfl ?_
  refine g_aload_n (v := ad 0) cx dX9_handle_17 rfl ?_
  refine g_get (v := .ref (ad 1)) cx fk_X9_7 dX9_handle_18 0 rfl rfl ?_
  refine g_iload (v := 71 + (5 * xi)) cx dX9_handle_21 rfl ?_
  refine g_iconst (v := 1) cx dX9_handle_23 (by decide) ?_
  refine g_iadd cx dX9_handle_24 ?_
  refine g_iald cx dX9_handle_25 1 ((71 + (5 * i)) + 1) rfl (rf_add (rf_add (nl 71) (rf_mul (nl 5) hi)) (nl 1)) (by omega) (by first | decide | omega) ?_
  refine g_top (y := nw ((71 + (5 * i)) + 1)) (rfl) ?_
  refine g_istore (lv' := [(0, .ref (ad 0)), (1, .int xq), (2, .int xi), (3, .int xd), (4, .int (71 + (5 * xi))), (5, .int (17 + (9 * xd))), (6, .int (nw ((71 + (5 * i)) + 1)))]) cx dX9_handle_26 (by decide) rfl ?_
  refine g_iload (v := nw ((71 + (5 * i)) + 1)) cx dX9_handle_28 rfl ?_
  refine g_bipush (v := 98) cx dX9_handle_30 (by decide) ?_
  refine g_icmp_eq cx 77 dX9_handle_32 (by decide) (fun hw1 => ?_) (fun hw1 => ?_)
  · skip
    refine g_iconst (v := 1) cx dX9_handle_77 (by decide) ?_
    refine g_goto cx 82 dX9_handle_78 (by decide) ?_
    refine g_istore (lv' := [(0, .ref (ad 0)), (1, .int xq), (2, .int xi), (3, .int xd), (4, .int (71 + (5 * xi))), (5, .int (17 + (9 * xd))), (6, .int (nw ((71 + (5 * i)) + 1))), (7, .int 1)]) cx dX9_handle_82 (by decide) rfl ?_
    refine g_aload_n (v := ad 0) cx dX9_handle_84 rfl ?_
    refine g_get (v := .ref (ad 11)) cx fk_X9_41 dX9_handle_85 0 rfl rfl ?_
    refine g_iload_n (v := xi) cx dX9_handle_88 rfl ?_
    refine g_dup2 cx dX9_handle_89 rfl rfl ?_
    refine g_iald cx dX9_handle_90 11 i rfl (hi) (by omega) (by first | decide | omega) ?_
    refine g_top (y := pl i) (rfl) ?_
    refine g_iconst (v := 1) cx dX9_handle_91 (by decide) ?_
    refine g_isub cx dX9_handle_92 ?_
    refine g_iast (ws' := wMo V ad nw rw ps im kp tx sw sv da co (upd pl i ((pl i) - 1)) me fa ao al de le ax ta ts tv se il) cx dX9_handle_93 11 i rfl (hi) (by omega) (by first | decide | omega) rfl ?_
    refine g_iload (v := 1) cx dX9_handle_94 rfl ?_
    refine g_if_ne cx 100 dX9_handle_96 (by decide) (fun hw2 => ?_) (fun hw2 => absurd hw2 (by decide))
    refine g_aload_n (v := ad 0) cx dX9_handle_100 rfl ?_
    refine g_get (v := .ref (ad 12)) cx fk_X9_44 dX9_handle_101 0 rfl rfl ?_
    refine g_iload_n (v := xd) cx dX9_handle_104 rfl ?_
    refine g_iconst (v := 1) cx dX9_handle_105 (by decide) ?_
    refine g_zast (ws' := wMo V ad nw rw ps im kp tx sw sv da co (upd pl i ((pl i) - 1)) (upd me d 1) fa ao al de le ax ta ts tv se il) cx dX9_handle_106 12 d rfl (hd) (by omega) (by first | decide | omega) (by decide) rfl ?_
    refine g_iconst (v := 4) cx dX9_handle_107 (by decide) ?_
    refine g_iload_n (v := xq) cx dX9_handle_108 rfl ?_
    refine g_imul cx dX9_handle_109 ?_
    refine g_iload_n (v := xi) cx dX9_handle_110 rfl ?_
    refine g_iadd cx dX9_handle_111 ?_
    refine g_istore (lv' := [(0, .ref (ad 0)), (1, .int xq), (2, .int xi), (3, .int xd), (4, .int (71 + (5 * xi))), (5, .int (17 + (9 * xd))), (6, .int (nw ((71 + (5 * i)) + 1))), (7, .int 1), (8, .int ((4 * xq) + xi))]) cx dX9_handle_112 (by decide) rfl ?_
    refine g_iload (v := 17 + (9 * xd)) cx dX9_handle_114 rfl ?_
    refine g_iconst (v := 1) cx dX9_handle_116 (by decide) ?_
    refine g_iadd cx dX9_handle_117 ?_
    refine g_aload_n (v := ad 0) cx dX9_handle_118 rfl ?_
    refine g_get (v := .ref (ad 1)) cx fk_X9_7 dX9_handle_119 0 rfl rfl ?_
    refine g_iload (v := 71 + (5 * xi)) cx dX9_handle_122 rfl ?_
    refine g_iconst (v := 3) cx dX9_handle_124 (by decide) ?_
    refine g_iadd cx dX9_handle_125 ?_
    refine g_iald cx dX9_handle_126 1 ((71 + (5 * i)) + 3) rfl (rf_add (rf_add (nl 71) (rf_mul (nl 5) hi)) (nl 3)) (by omega) (by first | decide | omega) ?_
    refine g_top (y := nw ((71 + (5 * i)) + 3)) (rfl) ?_
    refine g_iadd cx dX9_handle_127 ?_
    refine g_istore (lv' := [(0, .ref (ad 0)), (1, .int xq), (2, .int xi), (3, .int xd), (4, .int (71 + (5 * xi))), (5, .int (17 + (9 * xd))), (6, .int (nw ((71 + (5 * i)) + 1))), (7, .int 1), (8, .int ((4 * xq) + xi)), (9, .int (((17 + (9 * xd)) + 1) + (nw ((71 + (5 * i)) + 3))))]) cx dX9_handle_128 (by decide) rfl ?_
    refine g_aload_n (v := ad 0) cx dX9_handle_130 rfl ?_
    refine g_get (v := .ref (ad 1)) cx fk_X9_7 dX9_handle_131 0 rfl rfl ?_
    refine g_iload (v := ((17 + (9 * xd)) + 1) + (nw ((71 + (5 * i)) + 3))) cx dX9_handle_134 rfl ?_
    refine g_iald cx dX9_handle_136 1 (((17 + (9 * d)) + 1) + (mt nw i)) rfl (rf_add (rf_add (rf_add (nl 17) (rf_mul (nl 9) hd)) (nl 1)) ht) (by omega) (by first | decide | omega) ?_
    refine g_top (y := nw (((17 + (9 * d)) + 1) + (mt nw i))) (rfl) ?_
    refine g_istore (lv' := [(0, .ref (ad 0)), (1, .int xq), (2, .int xi), (3, .int xd), (4, .int (71 + (5 * xi))), (5, .int (17 + (9 * xd))), (6, .int (nw ((71 + (5 * i)) + 1))), (7, .int 1), (8, .int ((4 * xq) + xi)), (9, .int (((17 + (9 * xd)) + 1) + (nw ((71 + (5 * i)) + 3)))), (10, .int (nw (((17 + (9 * d)) + 1) + (mt nw i))))]) cx dX9_handle_137 (by decide) rfl ?_
    refine g_aload_n (v := ad 0) cx dX9_handle_139 rfl ?_
    refine g_get (v := .ref (ad 1)) cx fk_X9_7 dX9_handle_140 0 rfl rfl ?_
    refine g_iload (v := 17 + (9 * xd)) cx dX9_handle_143 rfl ?_
    refine g_bipush (v := 6) cx dX9_handle_145 (by decide) ?_
    refine g_iadd cx dX9_handle_147 ?_
    refine g_iald cx dX9_handle_148 1 ((17 + (9 * d)) + 6) rfl (rf_add (rf_add (nl 17) (rf_mul (nl 9) hd)) (nl 6)) (by omega) (by first | decide | omega) ?_
    refine g_top (y := nw ((17 + (9 * d)) + 6)) (rfl) ?_
    refine g_iconst (v := 1) cx dX9_handle_149 (by decide) ?_
    refine g_icmp_ne cx 157 dX9_handle_150 (by decide) (fun hw3 => ?_) (fun hw3 => ?_)
    · skip
      refine g_iconst (v := 0) cx dX9_handle_157 (by decide) ?_
      refine g_istore (lv' := [(0, .ref (ad 0)), (1, .int xq), (2, .int xi), (3, .int xd), (4, .int (71 + (5 * xi))), (5, .int (17 + (9 * xd))), (6, .int (nw ((71 + (5 * i)) + 1))), (7, .int 1), (8, .int ((4 * xq) + xi)), (9, .int (((17 + (9 * xd)) + 1) + (nw ((71 + (5 * i)) + 3)))), (10, .int (nw (((17 + (9 * d)) + 1) + (mt nw i)))), (11, .int 0)]) cx dX9_handle_158 (by decide) rfl ?_
      refine g_aload_n (v := ad 0) cx dX9_handle_160 rfl ?_
      refine g_get (v := .ref (ad 1)) cx fk_X9_7 dX9_handle_161 0 rfl rfl ?_
      refine g_iload (v := 71 + (5 * xi)) cx dX9_handle_164 rfl ?_
      refine g_iald cx dX9_handle_166 1 (71 + (5 * i)) rfl (rf_add (nl 71) (rf_mul (nl 5) hi)) (by omega) (by first | decide | omega) ?_
      refine g_top (y := nw (71 + (5 * i))) (rfl) ?_
      refine g_bipush (v := 114) cx dX9_handle_167 (by decide) ?_
      refine g_icmp_ne cx 215 dX9_handle_169 (by decide) (fun hw4 => ?_) (fun hw4 => ?_)
      · skip
        refine g_aload_n (v := ad 0) cx dX9_handle_215 rfl ?_
        refine g_get (v := .ref (ad 1)) cx fk_X9_7 dX9_handle_216 0 rfl rfl ?_
        refine g_iload (v := 71 + (5 * xi)) cx dX9_handle_219 rfl ?_
        refine g_iald cx dX9_handle_221 1 (71 + (5 * i)) rfl (rf_add (nl 71) (rf_mul (nl 5) hi)) (by omega) (by first | decide | omega) ?_
        refine g_top (y := nw (71 + (5 * i))) (rfl) ?_
        refine g_bipush (v := 119) cx dX9_handle_222 (by decide) ?_
        refine g_icmp_ne cx 274 dX9_handle_224 (by decide) (fun hw5 => ?_) (fun hw5 => ?_)
        · skip
          refine g_aload_n (v := ad 0) cx dX9_handle_274 rfl ?_
          refine g_get (v := .ref (ad 1)) cx fk_X9_7 dX9_handle_275 0 rfl rfl ?_
          refine g_iload (v := ((17 + (9 * xd)) + 1) + (nw ((71 + (5 * i)) + 3))) cx dX9_handle_278 rfl ?_
          refine g_iload (v := 0) cx dX9_handle_280 rfl ?_
          refine g_if_eq cx 290 dX9_handle_282 (by decide) (fun hw6 => ?_) (fun hw6 => absurd (by decide) hw6)
          refine g_aload_n (v := ad 0) cx dX9_handle_290 rfl ?_
          refine g_get (v := .ref (ad 9)) cx fk_X9_35 dX9_handle_291 0 rfl rfl ?_
          refine g_iload (v := (4 * xq) + xi) cx dX9_handle_294 rfl ?_
          refine g_iald cx dX9_handle_296 9 ((4 * q) + i) rfl (rf_add (rf_mul (nl 4) hq) hi) (by omega) (by first | decide | omega) ?_
          refine g_top (y := da ((4 * q) + i)) (rfl) ?_
          refine g_iast (ws' := wMo V ad (upd nw (((17 + (9 * d)) + 1) + (mt nw i)) (da ((4 * q) + i))) rw ps im kp tx sw sv da co (upd pl i ((pl i) - 1)) (upd me d 1) fa ao al de le ax ta ts tv se il) cx dX9_handle_297 1 (((17 + (9 * d)) + 1) + (mt nw i)) rfl (rf_add (rf_add (rf_add (nl 17) (rf_mul (nl 9) hd)) (nl 1)) ht) (by omega) (by first | decide | omega) rfl ?_
          refine g_aload_n (v := ad 0) cx dX9_handle_298 rfl ?_
          refine g_get (v := .ref (ad 9)) cx fk_X9_35 dX9_handle_299 0 rfl rfl ?_
          refine g_iload (v := (4 * xq) + xi) cx dX9_handle_302 rfl ?_
          refine g_iload (v := nw (((17 + (9 * d)) + 1) + (mt nw i))) cx dX9_handle_304 rfl ?_
          refine g_iast (ws' := wMo V ad (upd nw (((17 + (9 * d)) + 1) + (mt nw i)) (da ((4 * q) + i))) rw ps im kp tx sw sv (upd da ((4 * q) + i) (nw (((17 + (9 * d)) + 1) + (mt nw i)))) co (upd pl i ((pl i) - 1)) (upd me d 1) fa ao al de le ax ta ts tv se il) cx dX9_handle_306 9 ((4 * q) + i) rfl (rf_add (rf_mul (nl 4) hq) hi) (by omega) (by first | decide | omega) rfl ?_
          refine g_aload_n (v := ad 0) cx dX9_handle_307 rfl ?_
          refine g_get (v := .ref (ad 10)) cx fk_X9_38 dX9_handle_308 0 rfl rfl ?_
          refine g_iload (v := (4 * xq) + xi) cx dX9_handle_311 rfl ?_
          refine g_dup2 cx dX9_handle_313 rfl rfl ?_
          refine g_iald cx dX9_handle_314 10 ((4 * q) + i) rfl (rf_add (rf_mul (nl 4) hq) hi) (by omega) (by first | decide | omega) ?_
          refine g_top (y := co ((4 * q) + i)) (rfl) ?_
          refine g_iload (v := 0) cx dX9_handle_315 rfl ?_
          refine g_if_eq cx 324 dX9_handle_317 (by decide) (fun hw7 => ?_) (fun hw7 => absurd (by decide) hw7)
          refine g_iconst (v := 3) cx dX9_handle_324 (by decide) ?_
          refine g_iadd cx dX9_handle_325 ?_
          refine g_iast (ws' := wMo V ad (upd nw (((17 + (9 * d)) + 1) + (mt nw i)) (da ((4 * q) + i))) rw ps im kp tx sw sv (upd da ((4 * q) + i) (nw (((17 + (9 * d)) + 1) + (mt nw i)))) (upd co ((4 * q) + i) ((co ((4 * q) + i)) + 3)) (upd pl i ((pl i) - 1)) (upd me d 1) fa ao al de le ax ta ts tv se il) cx dX9_handle_326 10 ((4 * q) + i) rfl (rf_add (rf_mul (nl 4) hq) hi) (by omega) (by first | decide | omega) rfl ?_
          exact hret _ _ _ dX9_handle_327 (by have his : mIs nw pl i d := Or.inl hw1; simp only [mH, if_pos his, mHn, mHd, mHc, if_pos hw1, if_neg hw3, if_neg hw4, if_neg hw5])
        · skip
          refine g_aload_n (v := ad 0) cx dX9_handle_227 rfl ?_
          refine g_get (v := .ref (ad 1)) cx fk_X9_7 dX9_handle_228 0 rfl rfl ?_
          refine g_iload (v := ((17 + (9 * xd)) + 1) + (nw ((71 + (5 * i)) + 3))) cx dX9_handle_231 rfl ?_
          refine g_iload (v := 0) cx dX9_handle_233 rfl ?_
          refine g_if_eq cx 243 dX9_handle_235 (by decide) (fun hw8 => ?_) (fun hw8 => absurd (by decide) hw8)
          refine g_aload_n (v := ad 0) cx dX9_handle_243 rfl ?_
          refine g_get (v := .ref (ad 9)) cx fk_X9_35 dX9_handle_244 0 rfl rfl ?_
          refine g_iload (v := (4 * xq) + xi) cx dX9_handle_247 rfl ?_
          refine g_iald cx dX9_handle_249 9 ((4 * q) + i) rfl (rf_add (rf_mul (nl 4) hq) hi) (by omega) (by first | decide | omega) ?_
          refine g_top (y := da ((4 * q) + i)) (rfl) ?_
          refine g_iast (ws' := wMo V ad (upd nw (((17 + (9 * d)) + 1) + (mt nw i)) (da ((4 * q) + i))) rw ps im kp tx sw sv da co (upd pl i ((pl i) - 1)) (upd me d 1) fa ao al de le ax ta ts tv se il) cx dX9_handle_250 1 (((17 + (9 * d)) + 1) + (mt nw i)) rfl (rf_add (rf_add (rf_add (nl 17) (rf_mul (nl 9) hd)) (nl 1)) ht) (by omega) (by first | decide | omega) rfl ?_
          refine g_aload_n (v := ad 0) cx dX9_handle_251 rfl ?_
          refine g_get (v := .ref (ad 10)) cx fk_X9_38 dX9_handle_252 0 rfl rfl ?_
          refine g_iload (v := (4 * xq) + xi) cx dX9_handle_255 rfl ?_
          refine g_dup2 cx dX9_handle_257 rfl rfl ?_
          refine g_iald cx dX9_handle_258 10 ((4 * q) + i) rfl (rf_add (rf_mul (nl 4) hq) hi) (by omega) (by first | decide | omega) ?_
          refine g_top (y := co ((4 * q) + i)) (rfl) ?_
          refine g_iload (v := 0) cx dX9_handle_259 rfl ?_
          refine g_if_eq cx 268 dX9_handle_261 (by decide) (fun hw9 => ?_) (fun hw9 => absurd (by decide) hw9)
          refine g_iconst (v := 1) cx dX9_handle_268 (by decide) ?_
          refine g_iadd cx dX9_handle_269 ?_
          refine g_iast (ws' := wMo V ad (upd nw (((17 + (9 * d)) + 1) + (mt nw i)) (da ((4 * q) + i))) rw ps im kp tx sw sv da (upd co ((4 * q) + i) ((co ((4 * q) + i)) + 1)) (upd pl i ((pl i) - 1)) (upd me d 1) fa ao al de le ax ta ts tv se il) cx dX9_handle_270 10 ((4 * q) + i) rfl (rf_add (rf_mul (nl 4) hq) hi) (by omega) (by first | decide | omega) rfl ?_
          refine g_goto cx 327 dX9_handle_271 (by decide) ?_
          exact hret _ _ _ dX9_handle_327 (by have his : mIs nw pl i d := Or.inl hw1; simp only [mH, if_pos his, mHn, mHd, mHc, if_pos hw1, if_neg hw3, if_neg hw4, if_pos hw5])
      · skip
        refine g_aload_n (v := ad 0) cx dX9_handle_172 rfl ?_
        refine g_get (v := .ref (ad 9)) cx fk_X9_35 dX9_handle_173 0 rfl rfl ?_
        refine g_iload (v := (4 * xq) + xi) cx dX9_handle_176 rfl ?_
        refine g_iload (v := nw ((71 + (5 * i)) + 1)) cx dX9_handle_178 rfl ?_
        refine g_bipush (v := 98) cx dX9_handle_180 (by decide) ?_
        refine g_icmp_ne cx 198 dX9_handle_182 (by decide) (fun hw10 => absurd (hw1) hw10) (fun hw10 => ?_)
        refine g_aload_n (v := ad 0) cx dX9_handle_185 rfl ?_
        refine g_get (v := .ref (ad 9)) cx fk_X9_35 dX9_handle_186 0 rfl rfl ?_
        refine g_iload (v := (4 * xq) + xi) cx dX9_handle_189 rfl ?_
        refine g_iald cx dX9_handle_191 9 ((4 * q) + i) rfl (rf_add (rf_mul (nl 4) hq) hi) (by omega) (by first | decide | omega) ?_
        refine g_top (y := da ((4 * q) + i)) (rfl) ?_
        refine g_iload (v := nw (((17 + (9 * d)) + 1) + (mt nw i))) cx dX9_handle_192 rfl ?_
        refine g_ior cx dX9_handle_194 ?_
        refine g_goto cx 200 dX9_handle_195 (by decide) ?_
        refine g_iast (ws' := wMo V ad nw rw ps im kp tx sw sv (upd da ((4 * q) + i) ((da ((4 * q) + i)) ||| (nw (((17 + (9 * d)) + 1) + (mt nw i))))) co (upd pl i ((pl i) - 1)) (upd me d 1) fa ao al de le ax ta ts tv se il) cx dX9_handle_200 9 ((4 * q) + i) rfl (rf_add (rf_mul (nl 4) hq) hi) (by omega) (by first | decide | omega) rfl ?_
        refine g_aload_n (v := ad 0) cx dX9_handle_201 rfl ?_
        refine g_get (v := .ref (ad 10)) cx fk_X9_38 dX9_handle_202 0 rfl rfl ?_
        refine g_iload (v := (4 * xq) + xi) cx dX9_handle_205 rfl ?_
        refine g_dup2 cx dX9_handle_207 rfl rfl ?_
        refine g_iald cx dX9_handle_208 10 ((4 * q) + i) rfl (rf_add (rf_mul (nl 4) hq) hi) (by omega) (by first | decide | omega) ?_
        refine g_top (y := co ((4 * q) + i)) (rfl) ?_
        refine g_iconst (v := 1) cx dX9_handle_209 (by decide) ?_
        refine g_iadd cx dX9_handle_210 ?_
        refine g_iast (ws' := wMo V ad nw rw ps im kp tx sw sv (upd da ((4 * q) + i) ((da ((4 * q) + i)) ||| (nw (((17 + (9 * d)) + 1) + (mt nw i))))) (upd co ((4 * q) + i) ((co ((4 * q) + i)) + 1)) (upd pl i ((pl i) - 1)) (upd me d 1) fa ao al de le ax ta ts tv se il) cx dX9_handle_211 10 ((4 * q) + i) rfl (rf_add (rf_mul (nl 4) hq) hi) (by omega) (by first | decide | omega) rfl ?_
        refine g_goto cx 327 dX9_handle_212 (by decide) ?_
        exact hret _ _ _ dX9_handle_327 (by have his : mIs nw pl i d := Or.inl hw1; simp only [mH, if_pos his, mHn, mHd, mHc, if_pos hw1, if_neg hw3, if_pos hw4])
    · skip
      refine g_iconst (v := 1) cx dX9_handle_153 (by decide) ?_
      refine g_goto cx 158 dX9_handle_154 (by decide) ?_
      refine g_istore (lv' := [(0, .ref (ad 0)), (1, .int xq), (2, .int xi), (3, .int xd), (4, .int (71 + (5 * xi))), (5, .int (17 + (9 * xd))), (6, .int (nw ((71 + (5 * i)) + 1))), (7, .int 1), (8, .int ((4 * xq) + xi)), (9, .int (((17 + (9 * xd)) + 1) + (nw ((71 + (5 * i)) + 3)))), (10, .int (nw (((17 + (9 * d)) + 1) + (mt nw i)))), (11, .int 1)]) cx dX9_handle_158 (by decide) rfl ?_
      refine g_aload_n (v := ad 0) cx dX9_handle_160 rfl ?_
      refine g_get (v := .ref (ad 1)) cx fk_X9_7 dX9_handle_161 0 rfl rfl ?_
      refine g_iload (v := 71 + (5 * xi)) cx dX9_handle_164 rfl ?_
      refine g_iald cx dX9_handle_166 1 (71 + (5 * i)) rfl (rf_add (nl 71) (rf_mul (nl 5) hi)) (by omega) (by first | decide | omega) ?_
      refine g_top (y := nw (71 + (5 * i))) (rfl) ?_
      refine g_bipush (v := 114) cx dX9_handle_167 (by decide) ?_
      refine g_icmp_ne cx 215 dX9_handle_169 (by decide) (fun hw11 => ?_) (fun hw11 => ?_)
      · skip
        refine g_aload_n (v := ad 0) cx dX9_handle_215 rfl ?_
        refine g_get (v := .ref (ad 1)) cx fk_X9_7 dX9_handle_216 0 rfl rfl ?_
        refine g_iload (v := 71 + (5 * xi)) cx dX9_handle_219 rfl ?_
        refine g_iald cx dX9_handle_221 1 (71 + (5 * i)) rfl (rf_add (nl 71) (rf_mul (nl 5) hi)) (by omega) (by first | decide | omega) ?_
        refine g_top (y := nw (71 + (5 * i))) (rfl) ?_
        refine g_bipush (v := 119) cx dX9_handle_222 (by decide) ?_
        refine g_icmp_ne cx 274 dX9_handle_224 (by decide) (fun hw12 => ?_) (fun hw12 => ?_)
        · skip
          refine g_aload_n (v := ad 0) cx dX9_handle_274 rfl ?_
          refine g_get (v := .ref (ad 1)) cx fk_X9_7 dX9_handle_275 0 rfl rfl ?_
          refine g_iload (v := ((17 + (9 * xd)) + 1) + (nw ((71 + (5 * i)) + 3))) cx dX9_handle_278 rfl ?_
          refine g_iload (v := 1) cx dX9_handle_280 rfl ?_
          refine g_if_eq cx 290 dX9_handle_282 (by decide) (fun hw13 => absurd hw13 (by decide)) (fun hw13 => ?_)
          refine g_iload (v := nw (((17 + (9 * d)) + 1) + (mt nw i))) cx dX9_handle_285 rfl ?_
          refine g_goto cx 297 dX9_handle_287 (by decide) ?_
          refine g_iast (ws' := wMo V ad (upd nw (((17 + (9 * d)) + 1) + (mt nw i)) (nw (((17 + (9 * d)) + 1) + (mt nw i)))) rw ps im kp tx sw sv da co (upd pl i ((pl i) - 1)) (upd me d 1) fa ao al de le ax ta ts tv se il) cx dX9_handle_297 1 (((17 + (9 * d)) + 1) + (mt nw i)) rfl (rf_add (rf_add (rf_add (nl 17) (rf_mul (nl 9) hd)) (nl 1)) ht) (by omega) (by first | decide | omega) rfl ?_
          refine g_aload_n (v := ad 0) cx dX9_handle_298 rfl ?_
          refine g_get (v := .ref (ad 9)) cx fk_X9_35 dX9_handle_299 0 rfl rfl ?_
          refine g_iload (v := (4 * xq) + xi) cx dX9_handle_302 rfl ?_
          refine g_iload (v := nw (((17 + (9 * d)) + 1) + (mt nw i))) cx dX9_handle_304 rfl ?_
          refine g_iast (ws' := wMo V ad (upd nw (((17 + (9 * d)) + 1) + (mt nw i)) (nw (((17 + (9 * d)) + 1) + (mt nw i)))) rw ps im kp tx sw sv (upd da ((4 * q) + i) (nw (((17 + (9 * d)) + 1) + (mt nw i)))) co (upd pl i ((pl i) - 1)) (upd me d 1) fa ao al de le ax ta ts tv se il) cx dX9_handle_306 9 ((4 * q) + i) rfl (rf_add (rf_mul (nl 4) hq) hi) (by omega) (by first | decide | omega) rfl ?_
          refine g_aload_n (v := ad 0) cx dX9_handle_307 rfl ?_
          refine g_get (v := .ref (ad 10)) cx fk_X9_38 dX9_handle_308 0 rfl rfl ?_
          refine g_iload (v := (4 * xq) + xi) cx dX9_handle_311 rfl ?_
          refine g_dup2 cx dX9_handle_313 rfl rfl ?_
          refine g_iald cx dX9_handle_314 10 ((4 * q) + i) rfl (rf_add (rf_mul (nl 4) hq) hi) (by omega) (by first | decide | omega) ?_
          refine g_top (y := co ((4 * q) + i)) (rfl) ?_
          refine g_iload (v := 1) cx dX9_handle_315 rfl ?_
          refine g_if_eq cx 324 dX9_handle_317 (by decide) (fun hw14 => absurd hw14 (by decide)) (fun hw14 => ?_)
          refine g_iconst (v := 1) cx dX9_handle_320 (by decide) ?_
          refine g_goto cx 325 dX9_handle_321 (by decide) ?_
          refine g_iadd cx dX9_handle_325 ?_
          refine g_iast (ws' := wMo V ad (upd nw (((17 + (9 * d)) + 1) + (mt nw i)) (nw (((17 + (9 * d)) + 1) + (mt nw i)))) rw ps im kp tx sw sv (upd da ((4 * q) + i) (nw (((17 + (9 * d)) + 1) + (mt nw i)))) (upd co ((4 * q) + i) ((co ((4 * q) + i)) + 1)) (upd pl i ((pl i) - 1)) (upd me d 1) fa ao al de le ax ta ts tv se il) cx dX9_handle_326 10 ((4 * q) + i) rfl (rf_add (rf_mul (nl 4) hq) hi) (by omega) (by first | decide | omega) rfl ?_
          exact hret _ _ _ dX9_handle_327 (by have his : mIs nw pl i d := Or.inl hw1; simp only [mH, if_pos his, mHn, mHd, mHc, if_pos hw1, if_pos hw3, if_neg hw11, if_neg hw12])
        · skip
          refine g_aload_n (v := ad 0) cx dX9_handle_227 rfl ?_
          refine g_get (v := .ref (ad 1)) cx fk_X9_7 dX9_handle_228 0 rfl rfl ?_
          refine g_iload (v := ((17 + (9 * xd)) + 1) + (nw ((71 + (5 * i)) + 3))) cx dX9_handle_231 rfl ?_
          refine g_iload (v := 1) cx dX9_handle_233 rfl ?_
          refine g_if_eq cx 243 dX9_handle_235 (by decide) (fun hw15 => absurd hw15 (by decide)) (fun hw15 => ?_)
          refine g_iload (v := nw (((17 + (9 * d)) + 1) + (mt nw i))) cx dX9_handle_238 rfl ?_
          refine g_goto cx 250 dX9_handle_240 (by decide) ?_
          refine g_iast (ws' := wMo V ad (upd nw (((17 + (9 * d)) + 1) + (mt nw i)) (nw (((17 + (9 * d)) + 1) + (mt nw i)))) rw ps im kp tx sw sv da co (upd pl i ((pl i) - 1)) (upd me d 1) fa ao al de le ax ta ts tv se il) cx dX9_handle_250 1 (((17 + (9 * d)) + 1) + (mt nw i)) rfl (rf_add (rf_add (rf_add (nl 17) (rf_mul (nl 9) hd)) (nl 1)) ht) (by omega) (by first | decide | omega) rfl ?_
          refine g_aload_n (v := ad 0) cx dX9_handle_251 rfl ?_
          refine g_get (v := .ref (ad 10)) cx fk_X9_38 dX9_handle_252 0 rfl rfl ?_
          refine g_iload (v := (4 * xq) + xi) cx dX9_handle_255 rfl ?_
          refine g_dup2 cx dX9_handle_257 rfl rfl ?_
          refine g_iald cx dX9_handle_258 10 ((4 * q) + i) rfl (rf_add (rf_mul (nl 4) hq) hi) (by omega) (by first | decide | omega) ?_
          refine g_top (y := co ((4 * q) + i)) (rfl) ?_
          refine g_iload (v := 1) cx dX9_handle_259 rfl ?_
          refine g_if_eq cx 268 dX9_handle_261 (by decide) (fun hw16 => absurd hw16 (by decide)) (fun hw16 => ?_)
          refine g_iconst (v := 0) cx dX9_handle_264 (by decide) ?_
          refine g_goto cx 269 dX9_handle_265 (by decide) ?_
          refine g_iadd cx dX9_handle_269 ?_
          refine g_iast (ws' := wMo V ad (upd nw (((17 + (9 * d)) + 1) + (mt nw i)) (nw (((17 + (9 * d)) + 1) + (mt nw i)))) rw ps im kp tx sw sv da (upd co ((4 * q) + i) ((co ((4 * q) + i)) + 0)) (upd pl i ((pl i) - 1)) (upd me d 1) fa ao al de le ax ta ts tv se il) cx dX9_handle_270 10 ((4 * q) + i) rfl (rf_add (rf_mul (nl 4) hq) hi) (by omega) (by first | decide | omega) rfl ?_
          refine g_goto cx 327 dX9_handle_271 (by decide) ?_
          exact hret _ _ _ dX9_handle_327 (by have his : mIs nw pl i d := Or.inl hw1; simp only [mH, if_pos his, mHn, mHd, mHc, if_pos hw1, if_pos hw3, if_neg hw11, if_pos hw12])
      · skip
        refine g_aload_n (v := ad 0) cx dX9_handle_172 rfl ?_
        refine g_get (v := .ref (ad 9)) cx fk_X9_35 dX9_handle_173 0 rfl rfl ?_
        refine g_iload (v := (4 * xq) + xi) cx dX9_handle_176 rfl ?_
        refine g_iload (v := nw ((71 + (5 * i)) + 1)) cx dX9_handle_178 rfl ?_
        refine g_bipush (v := 98) cx dX9_handle_180 (by decide) ?_
        refine g_icmp_ne cx 198 dX9_handle_182 (by decide) (fun hw17 => absurd (hw1) hw17) (fun hw17 => ?_)
        refine g_aload_n (v := ad 0) cx dX9_handle_185 rfl ?_
        refine g_get (v := .ref (ad 9)) cx fk_X9_35 dX9_handle_186 0 rfl rfl ?_
        refine g_iload (v := (4 * xq) + xi) cx dX9_handle_189 rfl ?_
        refine g_iald cx dX9_handle_191 9 ((4 * q) + i) rfl (rf_add (rf_mul (nl 4) hq) hi) (by omega) (by first | decide | omega) ?_
        refine g_top (y := da ((4 * q) + i)) (rfl) ?_
        refine g_iload (v := nw (((17 + (9 * d)) + 1) + (mt nw i))) cx dX9_handle_192 rfl ?_
        refine g_ior cx dX9_handle_194 ?_
        refine g_goto cx 200 dX9_handle_195 (by decide) ?_
        refine g_iast (ws' := wMo V ad nw rw ps im kp tx sw sv (upd da ((4 * q) + i) ((da ((4 * q) + i)) ||| (nw (((17 + (9 * d)) + 1) + (mt nw i))))) co (upd pl i ((pl i) - 1)) (upd me d 1) fa ao al de le ax ta ts tv se il) cx dX9_handle_200 9 ((4 * q) + i) rfl (rf_add (rf_mul (nl 4) hq) hi) (by omega) (by first | decide | omega) rfl ?_
        refine g_aload_n (v := ad 0) cx dX9_handle_201 rfl ?_
        refine g_get (v := .ref (ad 10)) cx fk_X9_38 dX9_handle_202 0 rfl rfl ?_
        refine g_iload (v := (4 * xq) + xi) cx dX9_handle_205 rfl ?_
        refine g_dup2 cx dX9_handle_207 rfl rfl ?_
        refine g_iald cx dX9_handle_208 10 ((4 * q) + i) rfl (rf_add (rf_mul (nl 4) hq) hi) (by omega) (by first | decide | omega) ?_
        refine g_top (y := co ((4 * q) + i)) (rfl) ?_
        refine g_iconst (v := 1) cx dX9_handle_209 (by decide) ?_
        refine g_iadd cx dX9_handle_210 ?_
        refine g_iast (ws' := wMo V ad nw rw ps im kp tx sw sv (upd da ((4 * q) + i) ((da ((4 * q) + i)) ||| (nw (((17 + (9 * d)) + 1) + (mt nw i))))) (upd co ((4 * q) + i) ((co ((4 * q) + i)) + 1)) (upd pl i ((pl i) - 1)) (upd me d 1) fa ao al de le ax ta ts tv se il) cx dX9_handle_211 10 ((4 * q) + i) rfl (rf_add (rf_mul (nl 4) hq) hi) (by omega) (by first | decide | omega) rfl ?_
        refine g_goto cx 327 dX9_handle_212 (by decide) ?_
        exact hret _ _ _ dX9_handle_327 (by have his : mIs nw pl i d := Or.inl hw1; simp only [mH, if_pos his, mHn, mHd, mHc, if_pos hw1, if_pos hw3, if_pos hw11])
  · skip
    refine g_iload (v := nw ((71 + (5 * i)) + 1)) cx dX9_handle_35 rfl ?_
    refine g_bipush (v := 115) cx dX9_handle_37 (by decide) ?_
    refine g_icmp_ne cx 61 dX9_handle_39 (by decide) (fun hw18 => ?_) (fun hw18 => ?_)
    · skip
      refine g_iload (v := nw ((71 + (5 * i)) + 1)) cx dX9_handle_61 rfl ?_
      refine g_bipush (v := 112) cx dX9_handle_63 (by decide) ?_
      refine g_icmp_ne cx 81 dX9_handle_65 (by decide) (fun hw19 => ?_) (fun hw19 => ?_)
      · skip
        refine g_iconst (v := 0) cx dX9_handle_81 (by decide) ?_
        refine g_istore (lv' := [(0, .ref (ad 0)), (1, .int xq), (2, .int xi), (3, .int xd), (4, .int (71 + (5 * xi))), (5, .int (17 + (9 * xd))), (6, .int (nw ((71 + (5 * i)) + 1))), (7, .int 0)]) cx dX9_handle_82 (by decide) rfl ?_
        refine g_aload_n (v := ad 0) cx dX9_handle_84 rfl ?_
        refine g_get (v := .ref (ad 11)) cx fk_X9_41 dX9_handle_85 0 rfl rfl ?_
        refine g_iload_n (v := xi) cx dX9_handle_88 rfl ?_
        refine g_dup2 cx dX9_handle_89 rfl rfl ?_
        refine g_iald cx dX9_handle_90 11 i rfl (hi) (by omega) (by first | decide | omega) ?_
        refine g_top (y := pl i) (rfl) ?_
        refine g_iconst (v := 1) cx dX9_handle_91 (by decide) ?_
        refine g_isub cx dX9_handle_92 ?_
        refine g_iast (ws' := wMo V ad nw rw ps im kp tx sw sv da co (upd pl i ((pl i) - 1)) me fa ao al de le ax ta ts tv se il) cx dX9_handle_93 11 i rfl (hi) (by omega) (by first | decide | omega) rfl ?_
        refine g_iload (v := 0) cx dX9_handle_94 rfl ?_
        refine g_if_ne cx 100 dX9_handle_96 (by decide) (fun hw20 => absurd (by decide) hw20) (fun hw20 => ?_)
        exact hret _ _ _ dX9_handle_99 (by have his : ¬ mIs nw pl i d := fun h => (by rcases h with h | h | h; exact hw1 h; exact hw18 h.1; exact hw19 h.1); simp only [mH, if_neg his])
      · skip
        refine g_aload_n (v := ad 0) cx dX9_handle_68 rfl ?_
        refine g_get (v := .ref (ad 11)) cx fk_X9_41 dX9_handle_69 0 rfl rfl ?_
        refine g_iload_n (v := xi) cx dX9_handle_72 rfl ?_
        refine g_iald cx dX9_handle_73 11 i rfl (hi) (by omega) (by first | decide | omega) ?_
        refine g_top (y := pl i) (rfl) ?_
        refine g_if_ne cx 81 dX9_handle_74 (by decide) (fun hw21 => ?_) (fun hw21 => ?_)
        · skip
          refine g_iconst (v := 0) cx dX9_handle_81 (by decide) ?_
          refine g_istore (lv' := [(0, .ref (ad 0)), (1, .int xq), (2, .int xi), (3, .int xd), (4, .int (71 + (5 * xi))), (5, .int (17 + (9 * xd))), (6, .int (nw ((71 + (5 * i)) + 1))), (7, .int 0)]) cx dX9_handle_82 (by decide) rfl ?_
          refine g_aload_n (v := ad 0) cx dX9_handle_84 rfl ?_
          refine g_get (v := .ref (ad 11)) cx fk_X9_41 dX9_handle_85 0 rfl rfl ?_
          refine g_iload_n (v := xi) cx dX9_handle_88 rfl ?_
          refine g_dup2 cx dX9_handle_89 rfl rfl ?_
          refine g_iald cx dX9_handle_90 11 i rfl (hi) (by omega) (by first | decide | omega) ?_
          refine g_top (y := pl i) (rfl) ?_
          refine g_iconst (v := 1) cx dX9_handle_91 (by decide) ?_
          refine g_isub cx dX9_handle_92 ?_
          refine g_iast (ws' := wMo V ad nw rw ps im kp tx sw sv da co (upd pl i ((pl i) - 1)) me fa ao al de le ax ta ts tv se il) cx dX9_handle_93 11 i rfl (hi) (by omega) (by first | decide | omega) rfl ?_
          refine g_iload (v := 0) cx dX9_handle_94 rfl ?_
          refine g_if_ne cx 100 dX9_handle_96 (by decide) (fun hw22 => absurd (by decide) hw22) (fun hw22 => ?_)
          exact hret _ _ _ dX9_handle_99 (by have his : ¬ mIs nw pl i d := fun h => (by rcases h with h | h | h; exact hw1 h; exact hw18 h.1; exact hw21 h.2); simp only [mH, if_neg his])
        · skip
          refine g_iconst (v := 1) cx dX9_handle_77 (by decide) ?_
          refine g_goto cx 82 dX9_handle_78 (by decide) ?_
          refine g_istore (lv' := [(0, .ref (ad 0)), (1, .int xq), (2, .int xi), (3, .int xd), (4, .int (71 + (5 * xi))), (5, .int (17 + (9 * xd))), (6, .int (nw ((71 + (5 * i)) + 1))), (7, .int 1)]) cx dX9_handle_82 (by decide) rfl ?_
          refine g_aload_n (v := ad 0) cx dX9_handle_84 rfl ?_
          refine g_get (v := .ref (ad 11)) cx fk_X9_41 dX9_handle_85 0 rfl rfl ?_
          refine g_iload_n (v := xi) cx dX9_handle_88 rfl ?_
          refine g_dup2 cx dX9_handle_89 rfl rfl ?_
          refine g_iald cx dX9_handle_90 11 i rfl (hi) (by omega) (by first | decide | omega) ?_
          refine g_top (y := pl i) (rfl) ?_
          refine g_iconst (v := 1) cx dX9_handle_91 (by decide) ?_
          refine g_isub cx dX9_handle_92 ?_
          refine g_iast (ws' := wMo V ad nw rw ps im kp tx sw sv da co (upd pl i ((pl i) - 1)) me fa ao al de le ax ta ts tv se il) cx dX9_handle_93 11 i rfl (hi) (by omega) (by first | decide | omega) rfl ?_
          refine g_iload (v := 1) cx dX9_handle_94 rfl ?_
          refine g_if_ne cx 100 dX9_handle_96 (by decide) (fun hw23 => ?_) (fun hw23 => absurd hw23 (by decide))
          refine g_aload_n (v := ad 0) cx dX9_handle_100 rfl ?_
          refine g_get (v := .ref (ad 12)) cx fk_X9_44 dX9_handle_101 0 rfl rfl ?_
          refine g_iload_n (v := xd) cx dX9_handle_104 rfl ?_
          refine g_iconst (v := 1) cx dX9_handle_105 (by decide) ?_
          refine g_zast (ws' := wMo V ad nw rw ps im kp tx sw sv da co (upd pl i ((pl i) - 1)) (upd me d 1) fa ao al de le ax ta ts tv se il) cx dX9_handle_106 12 d rfl (hd) (by omega) (by first | decide | omega) (by decide) rfl ?_
          refine g_iconst (v := 4) cx dX9_handle_107 (by decide) ?_
          refine g_iload_n (v := xq) cx dX9_handle_108 rfl ?_
          refine g_imul cx dX9_handle_109 ?_
          refine g_iload_n (v := xi) cx dX9_handle_110 rfl ?_
          refine g_iadd cx dX9_handle_111 ?_
          refine g_istore (lv' := [(0, .ref (ad 0)), (1, .int xq), (2, .int xi), (3, .int xd), (4, .int (71 + (5 * xi))), (5, .int (17 + (9 * xd))), (6, .int (nw ((71 + (5 * i)) + 1))), (7, .int 1), (8, .int ((4 * xq) + xi))]) cx dX9_handle_112 (by decide) rfl ?_
          refine g_iload (v := 17 + (9 * xd)) cx dX9_handle_114 rfl ?_
          refine g_iconst (v := 1) cx dX9_handle_116 (by decide) ?_
          refine g_iadd cx dX9_handle_117 ?_
          refine g_aload_n (v := ad 0) cx dX9_handle_118 rfl ?_
          refine g_get (v := .ref (ad 1)) cx fk_X9_7 dX9_handle_119 0 rfl rfl ?_
          refine g_iload (v := 71 + (5 * xi)) cx dX9_handle_122 rfl ?_
          refine g_iconst (v := 3) cx dX9_handle_124 (by decide) ?_
          refine g_iadd cx dX9_handle_125 ?_
          refine g_iald cx dX9_handle_126 1 ((71 + (5 * i)) + 3) rfl (rf_add (rf_add (nl 71) (rf_mul (nl 5) hi)) (nl 3)) (by omega) (by first | decide | omega) ?_
          refine g_top (y := nw ((71 + (5 * i)) + 3)) (rfl) ?_
          refine g_iadd cx dX9_handle_127 ?_
          refine g_istore (lv' := [(0, .ref (ad 0)), (1, .int xq), (2, .int xi), (3, .int xd), (4, .int (71 + (5 * xi))), (5, .int (17 + (9 * xd))), (6, .int (nw ((71 + (5 * i)) + 1))), (7, .int 1), (8, .int ((4 * xq) + xi)), (9, .int (((17 + (9 * xd)) + 1) + (nw ((71 + (5 * i)) + 3))))]) cx dX9_handle_128 (by decide) rfl ?_
          refine g_aload_n (v := ad 0) cx dX9_handle_130 rfl ?_
          refine g_get (v := .ref (ad 1)) cx fk_X9_7 dX9_handle_131 0 rfl rfl ?_
          refine g_iload (v := ((17 + (9 * xd)) + 1) + (nw ((71 + (5 * i)) + 3))) cx dX9_handle_134 rfl ?_
          refine g_iald cx dX9_handle_136 1 (((17 + (9 * d)) + 1) + (mt nw i)) rfl (rf_add (rf_add (rf_add (nl 17) (rf_mul (nl 9) hd)) (nl 1)) ht) (by omega) (by first | decide | omega) ?_
          refine g_top (y := nw (((17 + (9 * d)) + 1) + (mt nw i))) (rfl) ?_
          refine g_istore (lv' := [(0, .ref (ad 0)), (1, .int xq), (2, .int xi), (3, .int xd), (4, .int (71 + (5 * xi))), (5, .int (17 + (9 * xd))), (6, .int (nw ((71 + (5 * i)) + 1))), (7, .int 1), (8, .int ((4 * xq) + xi)), (9, .int (((17 + (9 * xd)) + 1) + (nw ((71 + (5 * i)) + 3)))), (10, .int (nw (((17 + (9 * d)) + 1) + (mt nw i))))]) cx dX9_handle_137 (by decide) rfl ?_
          refine g_aload_n (v := ad 0) cx dX9_handle_139 rfl ?_
          refine g_get (v := .ref (ad 1)) cx fk_X9_7 dX9_handle_140 0 rfl rfl ?_
          refine g_iload (v := 17 + (9 * xd)) cx dX9_handle_143 rfl ?_
          refine g_bipush (v := 6) cx dX9_handle_145 (by decide) ?_
          refine g_iadd cx dX9_handle_147 ?_
          refine g_iald cx dX9_handle_148 1 ((17 + (9 * d)) + 6) rfl (rf_add (rf_add (nl 17) (rf_mul (nl 9) hd)) (nl 6)) (by omega) (by first | decide | omega) ?_
          refine g_top (y := nw ((17 + (9 * d)) + 6)) (rfl) ?_
          refine g_iconst (v := 1) cx dX9_handle_149 (by decide) ?_
          refine g_icmp_ne cx 157 dX9_handle_150 (by decide) (fun hw24 => ?_) (fun hw24 => ?_)
          · skip
            refine g_iconst (v := 0) cx dX9_handle_157 (by decide) ?_
            refine g_istore (lv' := [(0, .ref (ad 0)), (1, .int xq), (2, .int xi), (3, .int xd), (4, .int (71 + (5 * xi))), (5, .int (17 + (9 * xd))), (6, .int (nw ((71 + (5 * i)) + 1))), (7, .int 1), (8, .int ((4 * xq) + xi)), (9, .int (((17 + (9 * xd)) + 1) + (nw ((71 + (5 * i)) + 3)))), (10, .int (nw (((17 + (9 * d)) + 1) + (mt nw i)))), (11, .int 0)]) cx dX9_handle_158 (by decide) rfl ?_
            refine g_aload_n (v := ad 0) cx dX9_handle_160 rfl ?_
            refine g_get (v := .ref (ad 1)) cx fk_X9_7 dX9_handle_161 0 rfl rfl ?_
            refine g_iload (v := 71 + (5 * xi)) cx dX9_handle_164 rfl ?_
            refine g_iald cx dX9_handle_166 1 (71 + (5 * i)) rfl (rf_add (nl 71) (rf_mul (nl 5) hi)) (by omega) (by first | decide | omega) ?_
            refine g_top (y := nw (71 + (5 * i))) (rfl) ?_
            refine g_bipush (v := 114) cx dX9_handle_167 (by decide) ?_
            refine g_icmp_ne cx 215 dX9_handle_169 (by decide) (fun hw25 => ?_) (fun hw25 => ?_)
            · skip
              refine g_aload_n (v := ad 0) cx dX9_handle_215 rfl ?_
              refine g_get (v := .ref (ad 1)) cx fk_X9_7 dX9_handle_216 0 rfl rfl ?_
              refine g_iload (v := 71 + (5 * xi)) cx dX9_handle_219 rfl ?_
              refine g_iald cx dX9_handle_221 1 (71 + (5 * i)) rfl (rf_add (nl 71) (rf_mul (nl 5) hi)) (by omega) (by first | decide | omega) ?_
              refine g_top (y := nw (71 + (5 * i))) (rfl) ?_
              refine g_bipush (v := 119) cx dX9_handle_222 (by decide) ?_
              refine g_icmp_ne cx 274 dX9_handle_224 (by decide) (fun hw26 => ?_) (fun hw26 => ?_)
              · skip
                refine g_aload_n (v := ad 0) cx dX9_handle_274 rfl ?_
                refine g_get (v := .ref (ad 1)) cx fk_X9_7 dX9_handle_275 0 rfl rfl ?_
                refine g_iload (v := ((17 + (9 * xd)) + 1) + (nw ((71 + (5 * i)) + 3))) cx dX9_handle_278 rfl ?_
                refine g_iload (v := 0) cx dX9_handle_280 rfl ?_
                refine g_if_eq cx 290 dX9_handle_282 (by decide) (fun hw27 => ?_) (fun hw27 => absurd (by decide) hw27)
                refine g_aload_n (v := ad 0) cx dX9_handle_290 rfl ?_
                refine g_get (v := .ref (ad 9)) cx fk_X9_35 dX9_handle_291 0 rfl rfl ?_
                refine g_iload (v := (4 * xq) + xi) cx dX9_handle_294 rfl ?_
                refine g_iald cx dX9_handle_296 9 ((4 * q) + i) rfl (rf_add (rf_mul (nl 4) hq) hi) (by omega) (by first | decide | omega) ?_
                refine g_top (y := da ((4 * q) + i)) (rfl) ?_
                refine g_iast (ws' := wMo V ad (upd nw (((17 + (9 * d)) + 1) + (mt nw i)) (da ((4 * q) + i))) rw ps im kp tx sw sv da co (upd pl i ((pl i) - 1)) (upd me d 1) fa ao al de le ax ta ts tv se il) cx dX9_handle_297 1 (((17 + (9 * d)) + 1) + (mt nw i)) rfl (rf_add (rf_add (rf_add (nl 17) (rf_mul (nl 9) hd)) (nl 1)) ht) (by omega) (by first | decide | omega) rfl ?_
                refine g_aload_n (v := ad 0) cx dX9_handle_298 rfl ?_
                refine g_get (v := .ref (ad 9)) cx fk_X9_35 dX9_handle_299 0 rfl rfl ?_
                refine g_iload (v := (4 * xq) + xi) cx dX9_handle_302 rfl ?_
                refine g_iload (v := nw (((17 + (9 * d)) + 1) + (mt nw i))) cx dX9_handle_304 rfl ?_
                refine g_iast (ws' := wMo V ad (upd nw (((17 + (9 * d)) + 1) + (mt nw i)) (da ((4 * q) + i))) rw ps im kp tx sw sv (upd da ((4 * q) + i) (nw (((17 + (9 * d)) + 1) + (mt nw i)))) co (upd pl i ((pl i) - 1)) (upd me d 1) fa ao al de le ax ta ts tv se il) cx dX9_handle_306 9 ((4 * q) + i) rfl (rf_add (rf_mul (nl 4) hq) hi) (by omega) (by first | decide | omega) rfl ?_
                refine g_aload_n (v := ad 0) cx dX9_handle_307 rfl ?_
                refine g_get (v := .ref (ad 10)) cx fk_X9_38 dX9_handle_308 0 rfl rfl ?_
                refine g_iload (v := (4 * xq) + xi) cx dX9_handle_311 rfl ?_
                refine g_dup2 cx dX9_handle_313 rfl rfl ?_
                refine g_iald cx dX9_handle_314 10 ((4 * q) + i) rfl (rf_add (rf_mul (nl 4) hq) hi) (by omega) (by first | decide | omega) ?_
                refine g_top (y := co ((4 * q) + i)) (rfl) ?_
                refine g_iload (v := 0) cx dX9_handle_315 rfl ?_
                refine g_if_eq cx 324 dX9_handle_317 (by decide) (fun hw28 => ?_) (fun hw28 => absurd (by decide) hw28)
                refine g_iconst (v := 3) cx dX9_handle_324 (by decide) ?_
                refine g_iadd cx dX9_handle_325 ?_
                refine g_iast (ws' := wMo V ad (upd nw (((17 + (9 * d)) + 1) + (mt nw i)) (da ((4 * q) + i))) rw ps im kp tx sw sv (upd da ((4 * q) + i) (nw (((17 + (9 * d)) + 1) + (mt nw i)))) (upd co ((4 * q) + i) ((co ((4 * q) + i)) + 3)) (upd pl i ((pl i) - 1)) (upd me d 1) fa ao al de le ax ta ts tv se il) cx dX9_handle_326 10 ((4 * q) + i) rfl (rf_add (rf_mul (nl 4) hq) hi) (by omega) (by first | decide | omega) rfl ?_
                exact hret _ _ _ dX9_handle_327 (by have his : mIs nw pl i d := Or.inr (Or.inr ⟨hw19, hw21⟩); simp only [mH, if_pos his, mHn, mHd, mHc, if_neg hw1, if_neg hw24, if_neg hw25, if_neg hw26])
              · skip
                refine g_aload_n (v := ad 0) cx dX9_handle_227 rfl ?_
                refine g_get (v := .ref (ad 1)) cx fk_X9_7 dX9_handle_228 0 rfl rfl ?_
                refine g_iload (v := ((17 + (9 * xd)) + 1) + (nw ((71 + (5 * i)) + 3))) cx dX9_handle_231 rfl ?_
                refine g_iload (v := 0) cx dX9_handle_233 rfl ?_
                refine g_if_eq cx 243 dX9_handle_235 (by decide) (fun hw29 => ?_) (fun hw29 => absurd (by decide) hw29)
                refine g_aload_n (v := ad 0) cx dX9_handle_243 rfl ?_
                refine g_get (v := .ref (ad 9)) cx fk_X9_35 dX9_handle_244 0 rfl rfl ?_
                refine g_iload (v := (4 * xq) + xi) cx dX9_handle_247 rfl ?_
                refine g_iald cx dX9_handle_249 9 ((4 * q) + i) rfl (rf_add (rf_mul (nl 4) hq) hi) (by omega) (by first | decide | omega) ?_
                refine g_top (y := da ((4 * q) + i)) (rfl) ?_
                refine g_iast (ws' := wMo V ad (upd nw (((17 + (9 * d)) + 1) + (mt nw i)) (da ((4 * q) + i))) rw ps im kp tx sw sv da co (upd pl i ((pl i) - 1)) (upd me d 1) fa ao al de le ax ta ts tv se il) cx dX9_handle_250 1 (((17 + (9 * d)) + 1) + (mt nw i)) rfl (rf_add (rf_add (rf_add (nl 17) (rf_mul (nl 9) hd)) (nl 1)) ht) (by omega) (by first | decide | omega) rfl ?_
                refine g_aload_n (v := ad 0) cx dX9_handle_251 rfl ?_
                refine g_get (v := .ref (ad 10)) cx fk_X9_38 dX9_handle_252 0 rfl rfl ?_
                refine g_iload (v := (4 * xq) + xi) cx dX9_handle_255 rfl ?_
                refine g_dup2 cx dX9_handle_257 rfl rfl ?_
                refine g_iald cx dX9_handle_258 10 ((4 * q) + i) rfl (rf_add (rf_mul (nl 4) hq) hi) (by omega) (by first | decide | omega) ?_
                refine g_top (y := co ((4 * q) + i)) (rfl) ?_
                refine g_iload (v := 0) cx dX9_handle_259 rfl ?_
                refine g_if_eq cx 268 dX9_handle_261 (by decide) (fun hw30 => ?_) (fun hw30 => absurd (by decide) hw30)
                refine g_iconst (v := 1) cx dX9_handle_268 (by decide) ?_
                refine g_iadd cx dX9_handle_269 ?_
                refine g_iast (ws' := wMo V ad (upd nw (((17 + (9 * d)) + 1) + (mt nw i)) (da ((4 * q) + i))) rw ps im kp tx sw sv da (upd co ((4 * q) + i) ((co ((4 * q) + i)) + 1)) (upd pl i ((pl i) - 1)) (upd me d 1) fa ao al de le ax ta ts tv se il) cx dX9_handle_270 10 ((4 * q) + i) rfl (rf_add (rf_mul (nl 4) hq) hi) (by omega) (by first | decide | omega) rfl ?_
                refine g_goto cx 327 dX9_handle_271 (by decide) ?_
                exact hret _ _ _ dX9_handle_327 (by have his : mIs nw pl i d := Or.inr (Or.inr ⟨hw19, hw21⟩); simp only [mH, if_pos his, mHn, mHd, mHc, if_neg hw1, if_neg hw24, if_neg hw25, if_pos hw26])
            · skip
              refine g_aload_n (v := ad 0) cx dX9_handle_172 rfl ?_
              refine g_get (v := .ref (ad 9)) cx fk_X9_35 dX9_handle_173 0 rfl rfl ?_
              refine g_iload (v := (4 * xq) + xi) cx dX9_handle_176 rfl ?_
              refine g_iload (v := nw ((71 + (5 * i)) + 1)) cx dX9_handle_178 rfl ?_
              refine g_bipush (v := 98) cx dX9_handle_180 (by decide) ?_
              refine g_icmp_ne cx 198 dX9_handle_182 (by decide) (fun hw31 => ?_) (fun hw31 => absurd hw31 (hw1))
              refine g_iload (v := nw (((17 + (9 * d)) + 1) + (mt nw i))) cx dX9_handle_198 rfl ?_
              refine g_iast (ws' := wMo V ad nw rw ps im kp tx sw sv (upd da ((4 * q) + i) (nw (((17 + (9 * d)) + 1) + (mt nw i)))) co (upd pl i ((pl i) - 1)) (upd me d 1) fa ao al de le ax ta ts tv se il) cx dX9_handle_200 9 ((4 * q) + i) rfl (rf_add (rf_mul (nl 4) hq) hi) (by omega) (by first | decide | omega) rfl ?_
              refine g_aload_n (v := ad 0) cx dX9_handle_201 rfl ?_
              refine g_get (v := .ref (ad 10)) cx fk_X9_38 dX9_handle_202 0 rfl rfl ?_
              refine g_iload (v := (4 * xq) + xi) cx dX9_handle_205 rfl ?_
              refine g_dup2 cx dX9_handle_207 rfl rfl ?_
              refine g_iald cx dX9_handle_208 10 ((4 * q) + i) rfl (rf_add (rf_mul (nl 4) hq) hi) (by omega) (by first | decide | omega) ?_
              refine g_top (y := co ((4 * q) + i)) (rfl) ?_
              refine g_iconst (v := 1) cx dX9_handle_209 (by decide) ?_
              refine g_iadd cx dX9_handle_210 ?_
              refine g_iast (ws' := wMo V ad nw rw ps im kp tx sw sv (upd da ((4 * q) + i) (nw (((17 + (9 * d)) + 1) + (mt nw i)))) (upd co ((4 * q) + i) ((co ((4 * q) + i)) + 1)) (upd pl i ((pl i) - 1)) (upd me d 1) fa ao al de le ax ta ts tv se il) cx dX9_handle_211 10 ((4 * q) + i) rfl (rf_add (rf_mul (nl 4) hq) hi) (by omega) (by first | decide | omega) rfl ?_
              refine g_goto cx 327 dX9_handle_212 (by decide) ?_
              exact hret _ _ _ dX9_handle_327 (by have his : mIs nw pl i d := Or.inr (Or.inr ⟨hw19, hw21⟩); simp only [mH, if_pos his, mHn, mHd, mHc, if_neg hw1, if_neg hw24, if_pos hw25])
          · skip
            refine g_iconst (v := 1) cx dX9_handle_153 (by decide) ?_
            refine g_goto cx 158 dX9_handle_154 (by decide) ?_
            refine g_istore (lv' := [(0, .ref (ad 0)), (1, .int xq), (2, .int xi), (3, .int xd), (4, .int (71 + (5 * xi))), (5, .int (17 + (9 * xd))), (6, .int (nw ((71 + (5 * i)) + 1))), (7, .int 1), (8, .int ((4 * xq) + xi)), (9, .int (((17 + (9 * xd)) + 1) + (nw ((71 + (5 * i)) + 3)))), (10, .int (nw (((17 + (9 * d)) + 1) + (mt nw i)))), (11, .int 1)]) cx dX9_handle_158 (by decide) rfl ?_
            refine g_aload_n (v := ad 0) cx dX9_handle_160 rfl ?_
            refine g_get (v := .ref (ad 1)) cx fk_X9_7 dX9_handle_161 0 rfl rfl ?_
            refine g_iload (v := 71 + (5 * xi)) cx dX9_handle_164 rfl ?_
            refine g_iald cx dX9_handle_166 1 (71 + (5 * i)) rfl (rf_add (nl 71) (rf_mul (nl 5) hi)) (by omega) (by first | decide | omega) ?_
            refine g_top (y := nw (71 + (5 * i))) (rfl) ?_
            refine g_bipush (v := 114) cx dX9_handle_167 (by decide) ?_
            refine g_icmp_ne cx 215 dX9_handle_169 (by decide) (fun hw32 => ?_) (fun hw32 => ?_)
            · skip
              refine g_aload_n (v := ad 0) cx dX9_handle_215 rfl ?_
              refine g_get (v := .ref (ad 1)) cx fk_X9_7 dX9_handle_216 0 rfl rfl ?_
              refine g_iload (v := 71 + (5 * xi)) cx dX9_handle_219 rfl ?_
              refine g_iald cx dX9_handle_221 1 (71 + (5 * i)) rfl (rf_add (nl 71) (rf_mul (nl 5) hi)) (by omega) (by first | decide | omega) ?_
              refine g_top (y := nw (71 + (5 * i))) (rfl) ?_
              refine g_bipush (v := 119) cx dX9_handle_222 (by decide) ?_
              refine g_icmp_ne cx 274 dX9_handle_224 (by decide) (fun hw33 => ?_) (fun hw33 => ?_)
              · skip
                refine g_aload_n (v := ad 0) cx dX9_handle_274 rfl ?_
                refine g_get (v := .ref (ad 1)) cx fk_X9_7 dX9_handle_275 0 rfl rfl ?_
                refine g_iload (v := ((17 + (9 * xd)) + 1) + (nw ((71 + (5 * i)) + 3))) cx dX9_handle_278 rfl ?_
                refine g_iload (v := 1) cx dX9_handle_280 rfl ?_
                refine g_if_eq cx 290 dX9_handle_282 (by decide) (fun hw34 => absurd hw34 (by decide)) (fun hw34 => ?_)
                refine g_iload (v := nw (((17 + (9 * d)) + 1) + (mt nw i))) cx dX9_handle_285 rfl ?_
                refine g_goto cx 297 dX9_handle_287 (by decide) ?_
                refine g_iast (ws' := wMo V ad (upd nw (((17 + (9 * d)) + 1) + (mt nw i)) (nw (((17 + (9 * d)) + 1) + (mt nw i)))) rw ps im kp tx sw sv da co (upd pl i ((pl i) - 1)) (upd me d 1) fa ao al de le ax ta ts tv se il) cx dX9_handle_297 1 (((17 + (9 * d)) + 1) + (mt nw i)) rfl (rf_add (rf_add (rf_add (nl 17) (rf_mul (nl 9) hd)) (nl 1)) ht) (by omega) (by first | decide | omega) rfl ?_
                refine g_aload_n (v := ad 0) cx dX9_handle_298 rfl ?_
                refine g_get (v := .ref (ad 9)) cx fk_X9_35 dX9_handle_299 0 rfl rfl ?_
                refine g_iload (v := (4 * xq) + xi) cx dX9_handle_302 rfl ?_
                refine g_iload (v := nw (((17 + (9 * d)) + 1) + (mt nw i))) cx dX9_handle_304 rfl ?_
                refine g_iast (ws' := wMo V ad (upd nw (((17 + (9 * d)) + 1) + (mt nw i)) (nw (((17 + (9 * d)) + 1) + (mt nw i)))) rw ps im kp tx sw sv (upd da ((4 * q) + i) (nw (((17 + (9 * d)) + 1) + (mt nw i)))) co (upd pl i ((pl i) - 1)) (upd me d 1) fa ao al de le ax ta ts tv se il) cx dX9_handle_306 9 ((4 * q) + i) rfl (rf_add (rf_mul (nl 4) hq) hi) (by omega) (by first | decide | omega) rfl ?_
                refine g_aload_n (v := ad 0) cx dX9_handle_307 rfl ?_
                refine g_get (v := .ref (ad 10)) cx fk_X9_38 dX9_handle_308 0 rfl rfl ?_
                refine g_iload (v := (4 * xq) + xi) cx dX9_handle_311 rfl ?_
                refine g_dup2 cx dX9_handle_313 rfl rfl ?_
                refine g_iald cx dX9_handle_314 10 ((4 * q) + i) rfl (rf_add (rf_mul (nl 4) hq) hi) (by omega) (by first | decide | omega) ?_
                refine g_top (y := co ((4 * q) + i)) (rfl) ?_
                refine g_iload (v := 1) cx dX9_handle_315 rfl ?_
                refine g_if_eq cx 324 dX9_handle_317 (by decide) (fun hw35 => absurd hw35 (by decide)) (fun hw35 => ?_)
                refine g_iconst (v := 1) cx dX9_handle_320 (by decide) ?_
                refine g_goto cx 325 dX9_handle_321 (by decide) ?_
                refine g_iadd cx dX9_handle_325 ?_
                refine g_iast (ws' := wMo V ad (upd nw (((17 + (9 * d)) + 1) + (mt nw i)) (nw (((17 + (9 * d)) + 1) + (mt nw i)))) rw ps im kp tx sw sv (upd da ((4 * q) + i) (nw (((17 + (9 * d)) + 1) + (mt nw i)))) (upd co ((4 * q) + i) ((co ((4 * q) + i)) + 1)) (upd pl i ((pl i) - 1)) (upd me d 1) fa ao al de le ax ta ts tv se il) cx dX9_handle_326 10 ((4 * q) + i) rfl (rf_add (rf_mul (nl 4) hq) hi) (by omega) (by first | decide | omega) rfl ?_
                exact hret _ _ _ dX9_handle_327 (by have his : mIs nw pl i d := Or.inr (Or.inr ⟨hw19, hw21⟩); simp only [mH, if_pos his, mHn, mHd, mHc, if_neg hw1, if_pos hw24, if_neg hw32, if_neg hw33])
              · skip
                refine g_aload_n (v := ad 0) cx dX9_handle_227 rfl ?_
                refine g_get (v := .ref (ad 1)) cx fk_X9_7 dX9_handle_228 0 rfl rfl ?_
                refine g_iload (v := ((17 + (9 * xd)) + 1) + (nw ((71 + (5 * i)) + 3))) cx dX9_handle_231 rfl ?_
                refine g_iload (v := 1) cx dX9_handle_233 rfl ?_
                refine g_if_eq cx 243 dX9_handle_235 (by decide) (fun hw36 => absurd hw36 (by decide)) (fun hw36 => ?_)
                refine g_iload (v := nw (((17 + (9 * d)) + 1) + (mt nw i))) cx dX9_handle_238 rfl ?_
                refine g_goto cx 250 dX9_handle_240 (by decide) ?_
                refine g_iast (ws' := wMo V ad (upd nw (((17 + (9 * d)) + 1) + (mt nw i)) (nw (((17 + (9 * d)) + 1) + (mt nw i)))) rw ps im kp tx sw sv da co (upd pl i ((pl i) - 1)) (upd me d 1) fa ao al de le ax ta ts tv se il) cx dX9_handle_250 1 (((17 + (9 * d)) + 1) + (mt nw i)) rfl (rf_add (rf_add (rf_add (nl 17) (rf_mul (nl 9) hd)) (nl 1)) ht) (by omega) (by first | decide | omega) rfl ?_
                refine g_aload_n (v := ad 0) cx dX9_handle_251 rfl ?_
                refine g_get (v := .ref (ad 10)) cx fk_X9_38 dX9_handle_252 0 rfl rfl ?_
                refine g_iload (v := (4 * xq) + xi) cx dX9_handle_255 rfl ?_
                refine g_dup2 cx dX9_handle_257 rfl rfl ?_
                refine g_iald cx dX9_handle_258 10 ((4 * q) + i) rfl (rf_add (rf_mul (nl 4) hq) hi) (by omega) (by first | decide | omega) ?_
                refine g_top (y := co ((4 * q) + i)) (rfl) ?_
                refine g_iload (v := 1) cx dX9_handle_259 rfl ?_
                refine g_if_eq cx 268 dX9_handle_261 (by decide) (fun hw37 => absurd hw37 (by decide)) (fun hw37 => ?_)
                refine g_iconst (v := 0) cx dX9_handle_264 (by decide) ?_
                refine g_goto cx 269 dX9_handle_265 (by decide) ?_
                refine g_iadd cx dX9_handle_269 ?_
                refine g_iast (ws' := wMo V ad (upd nw (((17 + (9 * d)) + 1) + (mt nw i)) (nw (((17 + (9 * d)) + 1) + (mt nw i)))) rw ps im kp tx sw sv da (upd co ((4 * q) + i) ((co ((4 * q) + i)) + 0)) (upd pl i ((pl i) - 1)) (upd me d 1) fa ao al de le ax ta ts tv se il) cx dX9_handle_270 10 ((4 * q) + i) rfl (rf_add (rf_mul (nl 4) hq) hi) (by omega) (by first | decide | omega) rfl ?_
                refine g_goto cx 327 dX9_handle_271 (by decide) ?_
                exact hret _ _ _ dX9_handle_327 (by have his : mIs nw pl i d := Or.inr (Or.inr ⟨hw19, hw21⟩); simp only [mH, if_pos his, mHn, mHd, mHc, if_neg hw1, if_pos hw24, if_neg hw32, if_pos hw33])
            · skip
              refine g_aload_n (v := ad 0) cx dX9_handle_172 rfl ?_
              refine g_get (v := .ref (ad 9)) cx fk_X9_35 dX9_handle_173 0 rfl rfl ?_
              refine g_iload (v := (4 * xq) + xi) cx dX9_handle_176 rfl ?_
              refine g_iload (v := nw ((71 + (5 * i)) + 1)) cx dX9_handle_178 rfl ?_
              refine g_bipush (v := 98) cx dX9_handle_180 (by decide) ?_
              refine g_icmp_ne cx 198 dX9_handle_182 (by decide) (fun hw38 => ?_) (fun hw38 => absurd hw38 (hw1))
              refine g_iload (v := nw (((17 + (9 * d)) + 1) + (mt nw i))) cx dX9_handle_198 rfl ?_
              refine g_iast (ws' := wMo V ad nw rw ps im kp tx sw sv (upd da ((4 * q) + i) (nw (((17 + (9 * d)) + 1) + (mt nw i)))) co (upd pl i ((pl i) - 1)) (upd me d 1) fa ao al de le ax ta ts tv se il) cx dX9_handle_200 9 ((4 * q) + i) rfl (rf_add (rf_mul (nl 4) hq) hi) (by omega) (by first | decide | omega) rfl ?_
              refine g_aload_n (v := ad 0) cx dX9_handle_201 rfl ?_
              refine g_get (v := .ref (ad 10)) cx fk_X9_38 dX9_handle_202 0 rfl rfl ?_
              refine g_iload (v := (4 * xq) + xi) cx dX9_handle_205 rfl ?_
              refine g_dup2 cx dX9_handle_207 rfl rfl ?_
              refine g_iald cx dX9_handle_208 10 ((4 * q) + i) rfl (rf_add (rf_mul (nl 4) hq) hi) (by omega) (by first | decide | omega) ?_
              refine g_top (y := co ((4 * q) + i)) (rfl) ?_
              refine g_iconst (v := 1) cx dX9_handle_209 (by decide) ?_
              refine g_iadd cx dX9_handle_210 ?_
              refine g_iast (ws' := wMo V ad nw rw ps im kp tx sw sv (upd da ((4 * q) + i) (nw (((17 + (9 * d)) + 1) + (mt nw i)))) (upd co ((4 * q) + i) ((co ((4 * q) + i)) + 1)) (upd pl i ((pl i) - 1)) (upd me d 1) fa ao al de le ax ta ts tv se il) cx dX9_handle_211 10 ((4 * q) + i) rfl (rf_add (rf_mul (nl 4) hq) hi) (by omega) (by first | decide | omega) rfl ?_
              refine g_goto cx 327 dX9_handle_212 (by decide) ?_
              exact hret _ _ _ dX9_handle_327 (by have his : mIs nw pl i d := Or.inr (Or.inr ⟨hw19, hw21⟩); simp only [mH, if_pos his, mHn, mHd, mHc, if_neg hw1, if_pos hw24, if_pos hw32])
    · skip
      refine g_aload_n (v := ad 0) cx dX9_handle_42 rfl ?_
      refine g_get (v := .ref (ad 1)) cx fk_X9_7 dX9_handle_43 0 rfl rfl ?_
      refine g_iload (v := 71 + (5 * xi)) cx dX9_handle_46 rfl ?_
      refine g_iconst (v := 2) cx dX9_handle_48 (by decide) ?_
      refine g_iadd cx dX9_handle_49 ?_
      refine g_iald cx dX9_handle_50 1 ((71 + (5 * i)) + 2) rfl (rf_add (rf_add (nl 71) (rf_mul (nl 5) hi)) (nl 2)) (by omega) (by first | decide | omega) ?_
      refine g_top (y := nw ((71 + (5 * i)) + 2)) (rfl) ?_
      refine g_aload_n (v := ad 0) cx dX9_handle_51 rfl ?_
      refine g_get (v := .ref (ad 1)) cx fk_X9_7 dX9_handle_52 0 rfl rfl ?_
      refine g_iload (v := 17 + (9 * xd)) cx dX9_handle_55 rfl ?_
      refine g_iald cx dX9_handle_57 1 (17 + (9 * d)) rfl (rf_add (nl 17) (rf_mul (nl 9) hd)) (by omega) (by first | decide | omega) ?_
      refine g_top (y := nw (17 + (9 * d))) (rfl) ?_
      refine g_icmp_eq cx 77 dX9_handle_58 (by decide) (fun hw39 => ?_) (fun hw39 => ?_)
      · skip
        refine g_iconst (v := 1) cx dX9_handle_77 (by decide) ?_
        refine g_goto cx 82 dX9_handle_78 (by decide) ?_
        refine g_istore (lv' := [(0, .ref (ad 0)), (1, .int xq), (2, .int xi), (3, .int xd), (4, .int (71 + (5 * xi))), (5, .int (17 + (9 * xd))), (6, .int (nw ((71 + (5 * i)) + 1))), (7, .int 1)]) cx dX9_handle_82 (by decide) rfl ?_
        refine g_aload_n (v := ad 0) cx dX9_handle_84 rfl ?_
        refine g_get (v := .ref (ad 11)) cx fk_X9_41 dX9_handle_85 0 rfl rfl ?_
        refine g_iload_n (v := xi) cx dX9_handle_88 rfl ?_
        refine g_dup2 cx dX9_handle_89 rfl rfl ?_
        refine g_iald cx dX9_handle_90 11 i rfl (hi) (by omega) (by first | decide | omega) ?_
        refine g_top (y := pl i) (rfl) ?_
        refine g_iconst (v := 1) cx dX9_handle_91 (by decide) ?_
        refine g_isub cx dX9_handle_92 ?_
        refine g_iast (ws' := wMo V ad nw rw ps im kp tx sw sv da co (upd pl i ((pl i) - 1)) me fa ao al de le ax ta ts tv se il) cx dX9_handle_93 11 i rfl (hi) (by omega) (by first | decide | omega) rfl ?_
        refine g_iload (v := 1) cx dX9_handle_94 rfl ?_
        refine g_if_ne cx 100 dX9_handle_96 (by decide) (fun hw40 => ?_) (fun hw40 => absurd hw40 (by decide))
        refine g_aload_n (v := ad 0) cx dX9_handle_100 rfl ?_
        refine g_get (v := .ref (ad 12)) cx fk_X9_44 dX9_handle_101 0 rfl rfl ?_
        refine g_iload_n (v := xd) cx dX9_handle_104 rfl ?_
        refine g_iconst (v := 1) cx dX9_handle_105 (by decide) ?_
        refine g_zast (ws' := wMo V ad nw rw ps im kp tx sw sv da co (upd pl i ((pl i) - 1)) (upd me d 1) fa ao al de le ax ta ts tv se il) cx dX9_handle_106 12 d rfl (hd) (by omega) (by first | decide | omega) (by decide) rfl ?_
        refine g_iconst (v := 4) cx dX9_handle_107 (by decide) ?_
        refine g_iload_n (v := xq) cx dX9_handle_108 rfl ?_
        refine g_imul cx dX9_handle_109 ?_
        refine g_iload_n (v := xi) cx dX9_handle_110 rfl ?_
        refine g_iadd cx dX9_handle_111 ?_
        refine g_istore (lv' := [(0, .ref (ad 0)), (1, .int xq), (2, .int xi), (3, .int xd), (4, .int (71 + (5 * xi))), (5, .int (17 + (9 * xd))), (6, .int (nw ((71 + (5 * i)) + 1))), (7, .int 1), (8, .int ((4 * xq) + xi))]) cx dX9_handle_112 (by decide) rfl ?_
        refine g_iload (v := 17 + (9 * xd)) cx dX9_handle_114 rfl ?_
        refine g_iconst (v := 1) cx dX9_handle_116 (by decide) ?_
        refine g_iadd cx dX9_handle_117 ?_
        refine g_aload_n (v := ad 0) cx dX9_handle_118 rfl ?_
        refine g_get (v := .ref (ad 1)) cx fk_X9_7 dX9_handle_119 0 rfl rfl ?_
        refine g_iload (v := 71 + (5 * xi)) cx dX9_handle_122 rfl ?_
        refine g_iconst (v := 3) cx dX9_handle_124 (by decide) ?_
        refine g_iadd cx dX9_handle_125 ?_
        refine g_iald cx dX9_handle_126 1 ((71 + (5 * i)) + 3) rfl (rf_add (rf_add (nl 71) (rf_mul (nl 5) hi)) (nl 3)) (by omega) (by first | decide | omega) ?_
        refine g_top (y := nw ((71 + (5 * i)) + 3)) (rfl) ?_
        refine g_iadd cx dX9_handle_127 ?_
        refine g_istore (lv' := [(0, .ref (ad 0)), (1, .int xq), (2, .int xi), (3, .int xd), (4, .int (71 + (5 * xi))), (5, .int (17 + (9 * xd))), (6, .int (nw ((71 + (5 * i)) + 1))), (7, .int 1), (8, .int ((4 * xq) + xi)), (9, .int (((17 + (9 * xd)) + 1) + (nw ((71 + (5 * i)) + 3))))]) cx dX9_handle_128 (by decide) rfl ?_
        refine g_aload_n (v := ad 0) cx dX9_handle_130 rfl ?_
        refine g_get (v := .ref (ad 1)) cx fk_X9_7 dX9_handle_131 0 rfl rfl ?_
        refine g_iload (v := ((17 + (9 * xd)) + 1) + (nw ((71 + (5 * i)) + 3))) cx dX9_handle_134 rfl ?_
        refine g_iald cx dX9_handle_136 1 (((17 + (9 * d)) + 1) + (mt nw i)) rfl (rf_add (rf_add (rf_add (nl 17) (rf_mul (nl 9) hd)) (nl 1)) ht) (by omega) (by first | decide | omega) ?_
        refine g_top (y := nw (((17 + (9 * d)) + 1) + (mt nw i))) (rfl) ?_
        refine g_istore (lv' := [(0, .ref (ad 0)), (1, .int xq), (2, .int xi), (3, .int xd), (4, .int (71 + (5 * xi))), (5, .int (17 + (9 * xd))), (6, .int (nw ((71 + (5 * i)) + 1))), (7, .int 1), (8, .int ((4 * xq) + xi)), (9, .int (((17 + (9 * xd)) + 1) + (nw ((71 + (5 * i)) + 3)))), (10, .int (nw (((17 + (9 * d)) + 1) + (mt nw i))))]) cx dX9_handle_137 (by decide) rfl ?_
        refine g_aload_n (v := ad 0) cx dX9_handle_139 rfl ?_
        refine g_get (v := .ref (ad 1)) cx fk_X9_7 dX9_handle_140 0 rfl rfl ?_
        refine g_iload (v := 17 + (9 * xd)) cx dX9_handle_143 rfl ?_
        refine g_bipush (v := 6) cx dX9_handle_145 (by decide) ?_
        refine g_iadd cx dX9_handle_147 ?_
        refine g_iald cx dX9_handle_148 1 ((17 + (9 * d)) + 6) rfl (rf_add (rf_add (nl 17) (rf_mul (nl 9) hd)) (nl 6)) (by omega) (by first | decide | omega) ?_
        refine g_top (y := nw ((17 + (9 * d)) + 6)) (rfl) ?_
        refine g_iconst (v := 1) cx dX9_handle_149 (by decide) ?_
        refine g_icmp_ne cx 157 dX9_handle_150 (by decide) (fun hw41 => ?_) (fun hw41 => ?_)
        · skip
          refine g_iconst (v := 0) cx dX9_handle_157 (by decide) ?_
          refine g_istore (lv' := [(0, .ref (ad 0)), (1, .int xq), (2, .int xi), (3, .int xd), (4, .int (71 + (5 * xi))), (5, .int (17 + (9 * xd))), (6, .int (nw ((71 + (5 * i)) + 1))), (7, .int 1), (8, .int ((4 * xq) + xi)), (9, .int (((17 + (9 * xd)) + 1) + (nw ((71 + (5 * i)) + 3)))), (10, .int (nw (((17 + (9 * d)) + 1) + (mt nw i)))), (11, .int 0)]) cx dX9_handle_158 (by decide) rfl ?_
          refine g_aload_n (v := ad 0) cx dX9_handle_160 rfl ?_
          refine g_get (v := .ref (ad 1)) cx fk_X9_7 dX9_handle_161 0 rfl rfl ?_
          refine g_iload (v := 71 + (5 * xi)) cx dX9_handle_164 rfl ?_
          refine g_iald cx dX9_handle_166 1 (71 + (5 * i)) rfl (rf_add (nl 71) (rf_mul (nl 5) hi)) (by omega) (by first | decide | omega) ?_
          refine g_top (y := nw (71 + (5 * i))) (rfl) ?_
          refine g_bipush (v := 114) cx dX9_handle_167 (by decide) ?_
          refine g_icmp_ne cx 215 dX9_handle_169 (by decide) (fun hw42 => ?_) (fun hw42 => ?_)
          · skip
            refine g_aload_n (v := ad 0) cx dX9_handle_215 rfl ?_
            refine g_get (v := .ref (ad 1)) cx fk_X9_7 dX9_handle_216 0 rfl rfl ?_
            refine g_iload (v := 71 + (5 * xi)) cx dX9_handle_219 rfl ?_
            refine g_iald cx dX9_handle_221 1 (71 + (5 * i)) rfl (rf_add (nl 71) (rf_mul (nl 5) hi)) (by omega) (by first | decide | omega) ?_
            refine g_top (y := nw (71 + (5 * i))) (rfl) ?_
            refine g_bipush (v := 119) cx dX9_handle_222 (by decide) ?_
            refine g_icmp_ne cx 274 dX9_handle_224 (by decide) (fun hw43 => ?_) (fun hw43 => ?_)
            · skip
              refine g_aload_n (v := ad 0) cx dX9_handle_274 rfl ?_
              refine g_get (v := .ref (ad 1)) cx fk_X9_7 dX9_handle_275 0 rfl rfl ?_
              refine g_iload (v := ((17 + (9 * xd)) + 1) + (nw ((71 + (5 * i)) + 3))) cx dX9_handle_278 rfl ?_
              refine g_iload (v := 0) cx dX9_handle_280 rfl ?_
              refine g_if_eq cx 290 dX9_handle_282 (by decide) (fun hw44 => ?_) (fun hw44 => absurd (by decide) hw44)
              refine g_aload_n (v := ad 0) cx dX9_handle_290 rfl ?_
              refine g_get (v := .ref (ad 9)) cx fk_X9_35 dX9_handle_291 0 rfl rfl ?_
              refine g_iload (v := (4 * xq) + xi) cx dX9_handle_294 rfl ?_
              refine g_iald cx dX9_handle_296 9 ((4 * q) + i) rfl (rf_add (rf_mul (nl 4) hq) hi) (by omega) (by first | decide | omega) ?_
              refine g_top (y := da ((4 * q) + i)) (rfl) ?_
              refine g_iast (ws' := wMo V ad (upd nw (((17 + (9 * d)) + 1) + (mt nw i)) (da ((4 * q) + i))) rw ps im kp tx sw sv da co (upd pl i ((pl i) - 1)) (upd me d 1) fa ao al de le ax ta ts tv se il) cx dX9_handle_297 1 (((17 + (9 * d)) + 1) + (mt nw i)) rfl (rf_add (rf_add (rf_add (nl 17) (rf_mul (nl 9) hd)) (nl 1)) ht) (by omega) (by first | decide | omega) rfl ?_
              refine g_aload_n (v := ad 0) cx dX9_handle_298 rfl ?_
              refine g_get (v := .ref (ad 9)) cx fk_X9_35 dX9_handle_299 0 rfl rfl ?_
              refine g_iload (v := (4 * xq) + xi) cx dX9_handle_302 rfl ?_
              refine g_iload (v := nw (((17 + (9 * d)) + 1) + (mt nw i))) cx dX9_handle_304 rfl ?_
              refine g_iast (ws' := wMo V ad (upd nw (((17 + (9 * d)) + 1) + (mt nw i)) (da ((4 * q) + i))) rw ps im kp tx sw sv (upd da ((4 * q) + i) (nw (((17 + (9 * d)) + 1) + (mt nw i)))) co (upd pl i ((pl i) - 1)) (upd me d 1) fa ao al de le ax ta ts tv se il) cx dX9_handle_306 9 ((4 * q) + i) rfl (rf_add (rf_mul (nl 4) hq) hi) (by omega) (by first | decide | omega) rfl ?_
              refine g_aload_n (v := ad 0) cx dX9_handle_307 rfl ?_
              refine g_get (v := .ref (ad 10)) cx fk_X9_38 dX9_handle_308 0 rfl rfl ?_
              refine g_iload (v := (4 * xq) + xi) cx dX9_handle_311 rfl ?_
              refine g_dup2 cx dX9_handle_313 rfl rfl ?_
              refine g_iald cx dX9_handle_314 10 ((4 * q) + i) rfl (rf_add (rf_mul (nl 4) hq) hi) (by omega) (by first | decide | omega) ?_
              refine g_top (y := co ((4 * q) + i)) (rfl) ?_
              refine g_iload (v := 0) cx dX9_handle_315 rfl ?_
              refine g_if_eq cx 324 dX9_handle_317 (by decide) (fun hw45 => ?_) (fun hw45 => absurd (by decide) hw45)
              refine g_iconst (v := 3) cx dX9_handle_324 (by decide) ?_
              refine g_iadd cx dX9_handle_325 ?_
              refine g_iast (ws' := wMo V ad (upd nw (((17 + (9 * d)) + 1) + (mt nw i)) (da ((4 * q) + i))) rw ps im kp tx sw sv (upd da ((4 * q) + i) (nw (((17 + (9 * d)) + 1) + (mt nw i)))) (upd co ((4 * q) + i) ((co ((4 * q) + i)) + 3)) (upd pl i ((pl i) - 1)) (upd me d 1) fa ao al de le ax ta ts tv se il) cx dX9_handle_326 10 ((4 * q) + i) rfl (rf_add (rf_mul (nl 4) hq) hi) (by omega) (by first | decide | omega) rfl ?_
              exact hret _ _ _ dX9_handle_327 (by have his : mIs nw pl i d := Or.inr (Or.inl ⟨hw18, hw39⟩); simp only [mH, if_pos his, mHn, mHd, mHc, if_neg hw1, if_neg hw41, if_neg hw42, if_neg hw43])
            · skip
              refine g_aload_n (v := ad 0) cx dX9_handle_227 rfl ?_
              refine g_get (v := .ref (ad 1)) cx fk_X9_7 dX9_handle_228 0 rfl rfl ?_
              refine g_iload (v := ((17 + (9 * xd)) + 1) + (nw ((71 + (5 * i)) + 3))) cx dX9_handle_231 rfl ?_
              refine g_iload (v := 0) cx dX9_handle_233 rfl ?_
              refine g_if_eq cx 243 dX9_handle_235 (by decide) (fun hw46 => ?_) (fun hw46 => absurd (by decide) hw46)
              refine g_aload_n (v := ad 0) cx dX9_handle_243 rfl ?_
              refine g_get (v := .ref (ad 9)) cx fk_X9_35 dX9_handle_244 0 rfl rfl ?_
              refine g_iload (v := (4 * xq) + xi) cx dX9_handle_247 rfl ?_
              refine g_iald cx dX9_handle_249 9 ((4 * q) + i) rfl (rf_add (rf_mul (nl 4) hq) hi) (by omega) (by first | decide | omega) ?_
              refine g_top (y := da ((4 * q) + i)) (rfl) ?_
              refine g_iast (ws' := wMo V ad (upd nw (((17 + (9 * d)) + 1) + (mt nw i)) (da ((4 * q) + i))) rw ps im kp tx sw sv da co (upd pl i ((pl i) - 1)) (upd me d 1) fa ao al de le ax ta ts tv se il) cx dX9_handle_250 1 (((17 + (9 * d)) + 1) + (mt nw i)) rfl (rf_add (rf_add (rf_add (nl 17) (rf_mul (nl 9) hd)) (nl 1)) ht) (by omega) (by first | decide | omega) rfl ?_
              refine g_aload_n (v := ad 0) cx dX9_handle_251 rfl ?_
              refine g_get (v := .ref (ad 10)) cx fk_X9_38 dX9_handle_252 0 rfl rfl ?_
              refine g_iload (v := (4 * xq) + xi) cx dX9_handle_255 rfl ?_
              refine g_dup2 cx dX9_handle_257 rfl rfl ?_
              refine g_iald cx dX9_handle_258 10 ((4 * q) + i) rfl (rf_add (rf_mul (nl 4) hq) hi) (by omega) (by first | decide | omega) ?_
              refine g_top (y := co ((4 * q) + i)) (rfl) ?_
              refine g_iload (v := 0) cx dX9_handle_259 rfl ?_
              refine g_if_eq cx 268 dX9_handle_261 (by decide) (fun hw47 => ?_) (fun hw47 => absurd (by decide) hw47)
              refine g_iconst (v := 1) cx dX9_handle_268 (by decide) ?_
              refine g_iadd cx dX9_handle_269 ?_
              refine g_iast (ws' := wMo V ad (upd nw (((17 + (9 * d)) + 1) + (mt nw i)) (da ((4 * q) + i))) rw ps im kp tx sw sv da (upd co ((4 * q) + i) ((co ((4 * q) + i)) + 1)) (upd pl i ((pl i) - 1)) (upd me d 1) fa ao al de le ax ta ts tv se il) cx dX9_handle_270 10 ((4 * q) + i) rfl (rf_add (rf_mul (nl 4) hq) hi) (by omega) (by first | decide | omega) rfl ?_
              refine g_goto cx 327 dX9_handle_271 (by decide) ?_
              exact hret _ _ _ dX9_handle_327 (by have his : mIs nw pl i d := Or.inr (Or.inl ⟨hw18, hw39⟩); simp only [mH, if_pos his, mHn, mHd, mHc, if_neg hw1, if_neg hw41, if_neg hw42, if_pos hw43])
          · skip
            refine g_aload_n (v := ad 0) cx dX9_handle_172 rfl ?_
            refine g_get (v := .ref (ad 9)) cx fk_X9_35 dX9_handle_173 0 rfl rfl ?_
            refine g_iload (v := (4 * xq) + xi) cx dX9_handle_176 rfl ?_
            refine g_iload (v := nw ((71 + (5 * i)) + 1)) cx dX9_handle_178 rfl ?_
            refine g_bipush (v := 98) cx dX9_handle_180 (by decide) ?_
            refine g_icmp_ne cx 198 dX9_handle_182 (by decide) (fun hw48 => ?_) (fun hw48 => absurd hw48 (hw1))
            refine g_iload (v := nw (((17 + (9 * d)) + 1) + (mt nw i))) cx dX9_handle_198 rfl ?_
            refine g_iast (ws' := wMo V ad nw rw ps im kp tx sw sv (upd da ((4 * q) + i) (nw (((17 + (9 * d)) + 1) + (mt nw i)))) co (upd pl i ((pl i) - 1)) (upd me d 1) fa ao al de le ax ta ts tv se il) cx dX9_handle_200 9 ((4 * q) + i) rfl (rf_add (rf_mul (nl 4) hq) hi) (by omega) (by first | decide | omega) rfl ?_
            refine g_aload_n (v := ad 0) cx dX9_handle_201 rfl ?_
            refine g_get (v := .ref (ad 10)) cx fk_X9_38 dX9_handle_202 0 rfl rfl ?_
            refine g_iload (v := (4 * xq) + xi) cx dX9_handle_205 rfl ?_
            refine g_dup2 cx dX9_handle_207 rfl rfl ?_
            refine g_iald cx dX9_handle_208 10 ((4 * q) + i) rfl (rf_add (rf_mul (nl 4) hq) hi) (by omega) (by first | decide | omega) ?_
            refine g_top (y := co ((4 * q) + i)) (rfl) ?_
            refine g_iconst (v := 1) cx dX9_handle_209 (by decide) ?_
            refine g_iadd cx dX9_handle_210 ?_
            refine g_iast (ws' := wMo V ad nw rw ps im kp tx sw sv (upd da ((4 * q) + i) (nw (((17 + (9 * d)) + 1) + (mt nw i)))) (upd co ((4 * q) + i) ((co ((4 * q) + i)) + 1)) (upd pl i ((pl i) - 1)) (upd me d 1) fa ao al de le ax ta ts tv se il) cx dX9_handle_211 10 ((4 * q) + i) rfl (rf_add (rf_mul (nl 4) hq) hi) (by omega) (by first | decide | omega) rfl ?_
            refine g_goto cx 327 dX9_handle_212 (by decide) ?_
            exact hret _ _ _ dX9_handle_327 (by have his : mIs nw pl i d := Or.inr (Or.inl ⟨hw18, hw39⟩); simp only [mH, if_pos his, mHn, mHd, mHc, if_neg hw1, if_neg hw41, if_pos hw42])
        · skip
          refine g_iconst (v := 1) cx dX9_handle_153 (by decide) ?_
          refine g_goto cx 158 dX9_handle_154 (by decide) ?_
          refine g_istore (lv' := [(0, .ref (ad 0)), (1, .int xq), (2, .int xi), (3, .int xd), (4, .int (71 + (5 * xi))), (5, .int (17 + (9 * xd))), (6, .int (nw ((71 + (5 * i)) + 1))), (7, .int 1), (8, .int ((4 * xq) + xi)), (9, .int (((17 + (9 * xd)) + 1) + (nw ((71 + (5 * i)) + 3)))), (10, .int (nw (((17 + (9 * d)) + 1) + (mt nw i)))), (11, .int 1)]) cx dX9_handle_158 (by decide) rfl ?_
          refine g_aload_n (v := ad 0) cx dX9_handle_160 rfl ?_
          refine g_get (v := .ref (ad 1)) cx fk_X9_7 dX9_handle_161 0 rfl rfl ?_
          refine g_iload (v := 71 + (5 * xi)) cx dX9_handle_164 rfl ?_
          refine g_iald cx dX9_handle_166 1 (71 + (5 * i)) rfl (rf_add (nl 71) (rf_mul (nl 5) hi)) (by omega) (by first | decide | omega) ?_
          refine g_top (y := nw (71 + (5 * i))) (rfl) ?_
          refine g_bipush (v := 114) cx dX9_handle_167 (by decide) ?_
          refine g_icmp_ne cx 215 dX9_handle_169 (by decide) (fun hw49 => ?_) (fun hw49 => ?_)
          · skip
            refine g_aload_n (v := ad 0) cx dX9_handle_215 rfl ?_
            refine g_get (v := .ref (ad 1)) cx fk_X9_7 dX9_handle_216 0 rfl rfl ?_
            refine g_iload (v := 71 + (5 * xi)) cx dX9_handle_219 rfl ?_
            refine g_iald cx dX9_handle_221 1 (71 + (5 * i)) rfl (rf_add (nl 71) (rf_mul (nl 5) hi)) (by omega) (by first | decide | omega) ?_
            refine g_top (y := nw (71 + (5 * i))) (rfl) ?_
            refine g_bipush (v := 119) cx dX9_handle_222 (by decide) ?_
            refine g_icmp_ne cx 274 dX9_handle_224 (by decide) (fun hw50 => ?_) (fun hw50 => ?_)
            · skip
              refine g_aload_n (v := ad 0) cx dX9_handle_274 rfl ?_
              refine g_get (v := .ref (ad 1)) cx fk_X9_7 dX9_handle_275 0 rfl rfl ?_
              refine g_iload (v := ((17 + (9 * xd)) + 1) + (nw ((71 + (5 * i)) + 3))) cx dX9_handle_278 rfl ?_
              refine g_iload (v := 1) cx dX9_handle_280 rfl ?_
              refine g_if_eq cx 290 dX9_handle_282 (by decide) (fun hw51 => absurd hw51 (by decide)) (fun hw51 => ?_)
              refine g_iload (v := nw (((17 + (9 * d)) + 1) + (mt nw i))) cx dX9_handle_285 rfl ?_
              refine g_goto cx 297 dX9_handle_287 (by decide) ?_
              refine g_iast (ws' := wMo V ad (upd nw (((17 + (9 * d)) + 1) + (mt nw i)) (nw (((17 + (9 * d)) + 1) + (mt nw i)))) rw ps im kp tx sw sv da co (upd pl i ((pl i) - 1)) (upd me d 1) fa ao al de le ax ta ts tv se il) cx dX9_handle_297 1 (((17 + (9 * d)) + 1) + (mt nw i)) rfl (rf_add (rf_add (rf_add (nl 17) (rf_mul (nl 9) hd)) (nl 1)) ht) (by omega) (by first | decide | omega) rfl ?_
              refine g_aload_n (v := ad 0) cx dX9_handle_298 rfl ?_
              refine g_get (v := .ref (ad 9)) cx fk_X9_35 dX9_handle_299 0 rfl rfl ?_
              refine g_iload (v := (4 * xq) + xi) cx dX9_handle_302 rfl ?_
              refine g_iload (v := nw (((17 + (9 * d)) + 1) + (mt nw i))) cx dX9_handle_304 rfl ?_
              refine g_iast (ws' := wMo V ad (upd nw (((17 + (9 * d)) + 1) + (mt nw i)) (nw (((17 + (9 * d)) + 1) + (mt nw i)))) rw ps im kp tx sw sv (upd da ((4 * q) + i) (nw (((17 + (9 * d)) + 1) + (mt nw i)))) co (upd pl i ((pl i) - 1)) (upd me d 1) fa ao al de le ax ta ts tv se il) cx dX9_handle_306 9 ((4 * q) + i) rfl (rf_add (rf_mul (nl 4) hq) hi) (by omega) (by first | decide | omega) rfl ?_
              refine g_aload_n (v := ad 0) cx dX9_handle_307 rfl ?_
              refine g_get (v := .ref (ad 10)) cx fk_X9_38 dX9_handle_308 0 rfl rfl ?_
              refine g_iload (v := (4 * xq) + xi) cx dX9_handle_311 rfl ?_
              refine g_dup2 cx dX9_handle_313 rfl rfl ?_
              refine g_iald cx dX9_handle_314 10 ((4 * q) + i) rfl (rf_add (rf_mul (nl 4) hq) hi) (by omega) (by first | decide | omega) ?_
              refine g_top (y := co ((4 * q) + i)) (rfl) ?_
              refine g_iload (v := 1) cx dX9_handle_315 rfl ?_
              refine g_if_eq cx 324 dX9_handle_317 (by decide) (fun hw52 => absurd hw52 (by decide)) (fun hw52 => ?_)
              refine g_iconst (v := 1) cx dX9_handle_320 (by decide) ?_
              refine g_goto cx 325 dX9_handle_321 (by decide) ?_
              refine g_iadd cx dX9_handle_325 ?_
              refine g_iast (ws' := wMo V ad (upd nw (((17 + (9 * d)) + 1) + (mt nw i)) (nw (((17 + (9 * d)) + 1) + (mt nw i)))) rw ps im kp tx sw sv (upd da ((4 * q) + i) (nw (((17 + (9 * d)) + 1) + (mt nw i)))) (upd co ((4 * q) + i) ((co ((4 * q) + i)) + 1)) (upd pl i ((pl i) - 1)) (upd me d 1) fa ao al de le ax ta ts tv se il) cx dX9_handle_326 10 ((4 * q) + i) rfl (rf_add (rf_mul (nl 4) hq) hi) (by omega) (by first | decide | omega) rfl ?_
              exact hret _ _ _ dX9_handle_327 (by have his : mIs nw pl i d := Or.inr (Or.inl ⟨hw18, hw39⟩); simp only [mH, if_pos his, mHn, mHd, mHc, if_neg hw1, if_pos hw41, if_neg hw49, if_neg hw50])
            · skip
              refine g_aload_n (v := ad 0) cx dX9_handle_227 rfl ?_
              refine g_get (v := .ref (ad 1)) cx fk_X9_7 dX9_handle_228 0 rfl rfl ?_
              refine g_iload (v := ((17 + (9 * xd)) + 1) + (nw ((71 + (5 * i)) + 3))) cx dX9_handle_231 rfl ?_
              refine g_iload (v := 1) cx dX9_handle_233 rfl ?_
              refine g_if_eq cx 243 dX9_handle_235 (by decide) (fun hw53 => absurd hw53 (by decide)) (fun hw53 => ?_)
              refine g_iload (v := nw (((17 + (9 * d)) + 1) + (mt nw i))) cx dX9_handle_238 rfl ?_
              refine g_goto cx 250 dX9_handle_240 (by decide) ?_
              refine g_iast (ws' := wMo V ad (upd nw (((17 + (9 * d)) + 1) + (mt nw i)) (nw (((17 + (9 * d)) + 1) + (mt nw i)))) rw ps im kp tx sw sv da co (upd pl i ((pl i) - 1)) (upd me d 1) fa ao al de le ax ta ts tv se il) cx dX9_handle_250 1 (((17 + (9 * d)) + 1) + (mt nw i)) rfl (rf_add (rf_add (rf_add (nl 17) (rf_mul (nl 9) hd)) (nl 1)) ht) (by omega) (by first | decide | omega) rfl ?_
              refine g_aload_n (v := ad 0) cx dX9_handle_251 rfl ?_
              refine g_get (v := .ref (ad 10)) cx fk_X9_38 dX9_handle_252 0 rfl rfl ?_
              refine g_iload (v := (4 * xq) + xi) cx dX9_handle_255 rfl ?_
              refine g_dup2 cx dX9_handle_257 rfl rfl ?_
              refine g_iald cx dX9_handle_258 10 ((4 * q) + i) rfl (rf_add (rf_mul (nl 4) hq) hi) (by omega) (by first | decide | omega) ?_
              refine g_top (y := co ((4 * q) + i)) (rfl) ?_
              refine g_iload (v := 1) cx dX9_handle_259 rfl ?_
              refine g_if_eq cx 268 dX9_handle_261 (by decide) (fun hw54 => absurd hw54 (by decide)) (fun hw54 => ?_)
              refine g_iconst (v := 0) cx dX9_handle_264 (by decide) ?_
              refine g_goto cx 269 dX9_handle_265 (by decide) ?_
              refine g_iadd cx dX9_handle_269 ?_
              refine g_iast (ws' := wMo V ad (upd nw (((17 + (9 * d)) + 1) + (mt nw i)) (nw (((17 + (9 * d)) + 1) + (mt nw i)))) rw ps im kp tx sw sv da (upd co ((4 * q) + i) ((co ((4 * q) + i)) + 0)) (upd pl i ((pl i) - 1)) (upd me d 1) fa ao al de le ax ta ts tv se il) cx dX9_handle_270 10 ((4 * q) + i) rfl (rf_add (rf_mul (nl 4) hq) hi) (by omega) (by first | decide | omega) rfl ?_
              refine g_goto cx 327 dX9_handle_271 (by decide) ?_
              exact hret _ _ _ dX9_handle_327 (by have his : mIs nw pl i d := Or.inr (Or.inl ⟨hw18, hw39⟩); simp only [mH, if_pos his, mHn, mHd, mHc, if_neg hw1, if_pos hw41, if_neg hw49, if_pos hw50])
          · skip
            refine g_aload_n (v := ad 0) cx dX9_handle_172 rfl ?_
            refine g_get (v := .ref (ad 9)) cx fk_X9_35 dX9_handle_173 0 rfl rfl ?_
            refine g_iload (v := (4 * xq) + xi) cx dX9_handle_176 rfl ?_
            refine g_iload (v := nw ((71 + (5 * i)) + 1)) cx dX9_handle_178 rfl ?_
            refine g_bipush (v := 98) cx dX9_handle_180 (by decide) ?_
            refine g_icmp_ne cx 198 dX9_handle_182 (by decide) (fun hw55 => ?_) (fun hw55 => absurd hw55 (hw1))
            refine g_iload (v := nw (((17 + (9 * d)) + 1) + (mt nw i))) cx dX9_handle_198 rfl ?_
            refine g_iast (ws' := wMo V ad nw rw ps im kp tx sw sv (upd da ((4 * q) + i) (nw (((17 + (9 * d)) + 1) + (mt nw i)))) co (upd pl i ((pl i) - 1)) (upd me d 1) fa ao al de le ax ta ts tv se il) cx dX9_handle_200 9 ((4 * q) + i) rfl (rf_add (rf_mul (nl 4) hq) hi) (by omega) (by first | decide | omega) rfl ?_
            refine g_aload_n (v := ad 0) cx dX9_handle_201 rfl ?_
            refine g_get (v := .ref (ad 10)) cx fk_X9_38 dX9_handle_202 0 rfl rfl ?_
            refine g_iload (v := (4 * xq) + xi) cx dX9_handle_205 rfl ?_
            refine g_dup2 cx dX9_handle_207 rfl rfl ?_
            refine g_iald cx dX9_handle_208 10 ((4 * q) + i) rfl (rf_add (rf_mul (nl 4) hq) hi) (by omega) (by first | decide | omega) ?_
            refine g_top (y := co ((4 * q) + i)) (rfl) ?_
            refine g_iconst (v := 1) cx dX9_handle_209 (by decide) ?_
            refine g_iadd cx dX9_handle_210 ?_
            refine g_iast (ws' := wMo V ad nw rw ps im kp tx sw sv (upd da ((4 * q) + i) (nw (((17 + (9 * d)) + 1) + (mt nw i)))) (upd co ((4 * q) + i) ((co ((4 * q) + i)) + 1)) (upd pl i ((pl i) - 1)) (upd me d 1) fa ao al de le ax ta ts tv se il) cx dX9_handle_211 10 ((4 * q) + i) rfl (rf_add (rf_mul (nl 4) hq) hi) (by omega) (by first | decide | omega) rfl ?_
            refine g_goto cx 327 dX9_handle_212 (by decide) ?_
            exact hret _ _ _ dX9_handle_327 (by have his : mIs nw pl i d := Or.inr (Or.inl ⟨hw18, hw39⟩); simp only [mH, if_pos his, mHn, mHd, mHc, if_neg hw1, if_pos hw41, if_pos hw49])
      · skip
        refine g_iload (v := nw ((71 + (5 * i)) + 1)) cx dX9_handle_61 rfl ?_
        refine g_bipush (v := 112) cx dX9_handle_63 (by decide) ?_
        refine g_icmp_ne cx 81 dX9_handle_65 (by decide) (fun hw56 => ?_) (fun hw56 => absurd hw56 (by rw [hw18]; decide))
        refine g_iconst (v := 0) cx dX9_handle_81 (by decide) ?_
        refine g_istore (lv' := [(0, .ref (ad 0)), (1, .int xq), (2, .int xi), (3, .int xd), (4, .int (71 + (5 * xi))), (5, .int (17 + (9 * xd))), (6, .int (nw ((71 + (5 * i)) + 1))), (7, .int 0)]) cx dX9_handle_82 (by decide) rfl ?_
        refine g_aload_n (v := ad 0) cx dX9_handle_84 rfl ?_
        refine g_get (v := .ref (ad 11)) cx fk_X9_41 dX9_handle_85 0 rfl rfl ?_
        refine g_iload_n (v := xi) cx dX9_handle_88 rfl ?_
        refine g_dup2 cx dX9_handle_89 rfl rfl ?_
        refine g_iald cx dX9_handle_90 11 i rfl (hi) (by omega) (by first | decide | omega) ?_
        refine g_top (y := pl i) (rfl) ?_
        refine g_iconst (v := 1) cx dX9_handle_91 (by decide) ?_
        refine g_isub cx dX9_handle_92 ?_
        refine g_iast (ws' := wMo V ad nw rw ps im kp tx sw sv da co (upd pl i ((pl i) - 1)) me fa ao al de le ax ta ts tv se il) cx dX9_handle_93 11 i rfl (hi) (by omega) (by first | decide | omega) rfl ?_
        refine g_iload (v := 0) cx dX9_handle_94 rfl ?_
        refine g_if_ne cx 100 dX9_handle_96 (by decide) (fun hw57 => absurd (by decide) hw57) (fun hw57 => ?_)
        exact hret _ _ _ dX9_handle_99 (by have his : ¬ mIs nw pl i d := fun h => (by rcases h with h | h | h; exact hw1 h; exact hw39 h.2; exact absurd (hw18.symm.trans h.1) (by decide)); simp only [mH, if_neg his])
