theorem u2_ss {R : S2} {i j : Nat} {v : Int32} : u2 R i j v i j = v := by simp [u2, va_up, upd]
theorem u2_sn {R : S2} {i j k : Nat} {v : Int32} (h : k ≠ j) : u2 R i j v i k = R i k := by simp [u2, va_up, upd, h]
theorem u2_n {R : S2} {i j k : Nat} {v : Int32} (h : k ≠ i) : u2 R i j v k = R k := by simp [u2, va_up, h]
theorem fl_fill (v : Int32) (a : Nat) (f : Nat → Int32) : ∀ n, fl (fun i g => upd g (a + i) v) n f = fun k => if a ≤ k ∧ k < a + n then v else f k
  | 0 => by funext k; simp only [fl]; rw [if_neg (by omega)]
  | n + 1 => by
    funext k
    simp only [fl, fl_fill v a f n, upd]
    by_cases h : k = a + n
    · rw [if_pos h, if_pos (by omega)]
    · rw [if_neg h]
      by_cases h2 : a ≤ k ∧ k < a + n
      · rw [if_pos h2, if_pos (by omega)]
      · rw [if_neg h2, if_neg (by omega)]
def rFill (f : Nat → Int32) (v : Int32) (a n : Nat) : Nat → Int32 := fl (fun i g => upd g (a + i) v) n f
def rm_J7_fill_53178 : Room := { frames := 0, cells := 0, slots := 0, locals := 0 }
set_option maxRecDepth 100000 in
set_option maxHeartbeats 4000000 in
theorem c_J7_fill_53178 (V : VT) (a n : Nat) (f : Nat → Int32) (v : Int32) (hn : n < 2147483648) : CV V yJ7_fill_53178 cJ7_fill_53178 4 rm_J7_fill_53178 [.ref a, .int v] (wArr V a n f) (fun w_ => w_ = wArr V a n (rFill f v 0 n)) := by
  refine CV_intro (by decide) (Nat.le_of_ble_eq_true rfl) (fun K cx hci hret => ?_)
  show G V K 4 0 0 (wArr V a n f) 0 [(0, .ref a), (1, .int v)] []
  refine g_iconst (v := 0) cx dJ7_fill_53178_0 (by decide) ?_
  refine g_istore_n (lv' := [(0, .ref a), (1, .int v), (2, .int 0)]) cx dJ7_fill_53178_1 (by decide) rfl ?_
  refine g_aload_n (v := a) cx dJ7_fill_53178_2 rfl ?_
  refine g_alen (ty := 0) (v := nI n) cx dJ7_fill_53178_3 0 rfl rfl ?_
  refine g_istore_n (lv' := [(0, .ref a), (1, .int v), (2, .int 0), (3, .int (nI n))]) cx dJ7_fill_53178_4 (by decide) rfl ?_
  refine rf_dn (P := fun i1 => G V K 4 0 0 (wArr V a n (rFill f v 0 i1)) 5 [(0, .ref a), (1, .int v), (2, .int (nI i1)), (3, .int (nI n))] []) (n) (fun i1 hi1 ihi1 => ?_) ?_
  · skip
    refine g_iload_n (v := nI i1) cx dJ7_fill_53178_5 rfl ?_
    refine g_iload_n (v := nI n) cx dJ7_fill_53178_6 rfl ?_
    refine g_icmp_ge cx 20 dJ7_fill_53178_7 (by decide) (fun hw1 => absurd hw1 (rf_geMN rfl rfl (by omega) (by omega) (by omega))) (fun hw1 => ?_)
    refine g_aload_n (v := a) cx dJ7_fill_53178_10 rfl ?_
    refine g_iload_n (v := nI i1) cx dJ7_fill_53178_11 rfl ?_
    refine g_iload_n (v := v) cx dJ7_fill_53178_12 rfl ?_
    refine g_iast (ws' := wArr V a n (upd (rFill f v 0 i1) (0 + i1) v)) cx dJ7_fill_53178_13 0 (0 + i1) rfl (by rw [Nat.zero_add]) (by omega) (by first | decide | omega) rfl ?_
    refine g_iinc (x := nI i1) (v := nI (i1 + 1)) (lv' := [(0, .ref a), (1, .int v), (2, .int (nI (i1 + 1))), (3, .int (nI n))]) cx dJ7_fill_53178_14 rfl (by decide) (nI_add _ _) rfl ?_
    refine g_goto cx 5 dJ7_fill_53178_17 (by decide) ?_
    exact ihi1
  · skip
    refine g_iload_n (v := nI n) cx dJ7_fill_53178_5 rfl ?_
    refine g_iload_n (v := nI n) cx dJ7_fill_53178_6 rfl ?_
    refine g_icmp_ge cx 20 dJ7_fill_53178_7 (by decide) (fun hw2 => ?_) (fun hw2 => absurd (rf_geMP rfl rfl (by omega) (by omega) (by omega)) hw2)
    exact hret _ _ _ dJ7_fill_53178_20 (rfl)
def rm_J7_rangeCheck_23922 : Room := { frames := 0, cells := 0, slots := 0, locals := 0 }
set_option maxRecDepth 100000 in
set_option maxHeartbeats 4000000 in
theorem c_J7_rangeCheck_23922 (V : VT) (x y z : Int32) (n a b : Nat) (hx : x = nI n) (hy : y = nI a) (hz : z = nI b) (h1 : a ≤ b) (h2 : b ≤ n) (hn : n < 2147483648) : CV V yJ7_rangeCheck_23922 cJ7_rangeCheck_23922 3 rm_J7_rangeCheck_23922 [.int x, .int y, .int z] (([] : va_W)) (fun w_ => w_ = ([] : va_W)) := by
  refine CV_intro (by decide) (Nat.le_of_ble_eq_true rfl) (fun K cx hci hret => ?_)
  show G V K 3 0 0 (([] : va_W)) 0 [(0, .int x), (1, .int y), (2, .int z)] []
  refine g_iload_n (v := y) cx dJ7_rangeCheck_23922_0 rfl ?_
  refine g_iload_n (v := z) cx dJ7_rangeCheck_23922_1 rfl ?_
  refine g_icmp_le cx 46 dJ7_rangeCheck_23922_2 (by decide) (fun hw1 => ?_) (fun hw1 => absurd (rf_leMP hy hz (by omega) (by omega) h1) hw1)
  refine g_iload_n (v := y) cx dJ7_rangeCheck_23922_46 rfl ?_
  refine g_if_ge cx 59 dJ7_rangeCheck_23922_47 (by decide) (fun hw2 => ?_) (fun hw2 => absurd (rf_geMP hy (b := 0) rfl (by omega) (by omega) (by omega)) hw2)
  refine g_iload_n (v := z) cx dJ7_rangeCheck_23922_59 rfl ?_
  refine g_iload_n (v := x) cx dJ7_rangeCheck_23922_60 rfl ?_
  refine g_icmp_le cx 73 dJ7_rangeCheck_23922_61 (by decide) (fun hw3 => ?_) (fun hw3 => absurd (rf_leMP hz hx (by omega) (by omega) h2) hw3)
  exact hret _ _ _ dJ7_rangeCheck_23922_73 (rfl)
def rm_J7_fill_fda19 : Room := { frames := 1, cells := 0, slots := 0, locals := 22 }
set_option maxRecDepth 100000 in
set_option maxHeartbeats 4000000 in
theorem c_J7_fill_fda19 (V : VT) (a n : Nat) (f : Nat → Int32) (x z v : Int32) (p q : Nat) (hx : x = nI p) (hz : z = nI q) (h1 : p ≤ q) (h2 : q ≤ n) (hn : n < 2147483648) : CV V yJ7_fill_fda19 cJ7_fill_fda19 5 rm_J7_fill_fda19 [.ref a, .int x, .int z, .int v] (wArr V a n f) (fun w_ => w_ = wArr V a n (rFill f v p (q - p))) := by
  refine CV_intro (by decide) (Nat.le_of_ble_eq_true rfl) (fun K cx hci hret => ?_)
  show G V K 5 0 0 (wArr V a n f) 0 [(0, .ref a), (1, .int x), (2, .int z), (3, .int v)] []
  subst hx
  subst hz
  refine g_aload_n (v := a) cx dJ7_fill_fda19_0 rfl ?_
  refine g_alen (ty := 0) (v := nI n) cx dJ7_fill_fda19_1 0 rfl rfl ?_
  refine g_iload_n (v := nI p) cx dJ7_fill_fda19_2 rfl ?_
  refine g_iload_n (v := nI q) cx dJ7_fill_fda19_3 rfl ?_
  refine k_callsv (ws' := wArr V a n f) (As := [.int (nI n), .int (nI p), .int (nI q)]) (rest := []) cx (c_J7_rangeCheck_23922 V (nI n) (nI p) (nI q) n p q rfl rfl rfl (by omega) (by omega) (by omega)) ml_J7_13 dJ7_fill_fda19_4 [] rfl rfl [] rfl rfl rfl rfl rfl (Nat.le_of_ble_eq_true rfl) ⟨Nat.le_of_ble_eq_true rfl, Nat.le_of_ble_eq_true rfl⟩ ⟨Nat.le_refl _, Nat.le_refl _⟩ ?_
  refine g_iload_n (v := nI p) cx dJ7_fill_fda19_7 rfl ?_
  refine g_istore (lv' := [(0, .ref a), (1, .int (nI p)), (2, .int (nI q)), (3, .int v), (4, .int (nI p))]) cx dJ7_fill_fda19_8 (by decide) rfl ?_
  refine rf_dn (P := fun i1 => G V K 5 0 0 (wArr V a n (rFill f v p i1)) 10 [(0, .ref a), (1, .int (nI p)), (2, .int (nI q)), (3, .int v), (4, .int (nI (p + i1)))] []) (q - p) (fun i1 hi1 ihi1 => ?_) ?_
  · skip
    refine g_iload (v := nI (p + i1)) cx dJ7_fill_fda19_10 rfl ?_
    refine g_iload_n (v := nI q) cx dJ7_fill_fda19_12 rfl ?_
    refine g_icmp_ge cx 27 dJ7_fill_fda19_13 (by decide) (fun hw1 => absurd hw1 (rf_geMN rfl rfl (by omega) (by omega) (by omega))) (fun hw1 => ?_)
    refine g_aload_n (v := a) cx dJ7_fill_fda19_16 rfl ?_
    refine g_iload (v := nI (p + i1)) cx dJ7_fill_fda19_17 rfl ?_
    refine g_iload_n (v := v) cx dJ7_fill_fda19_19 rfl ?_
    refine g_iast (ws' := wArr V a n (upd (rFill f v p i1) (p + i1) v)) cx dJ7_fill_fda19_20 0 (p + i1) rfl (rfl) (by omega) (by first | decide | omega) rfl ?_
    refine g_iinc (x := nI (p + i1)) (v := nI ((p + i1) + 1)) (lv' := [(0, .ref a), (1, .int (nI p)), (2, .int (nI q)), (3, .int v), (4, .int (nI ((p + i1) + 1)))]) cx dJ7_fill_fda19_21 rfl (by decide) (nI_add _ _) rfl ?_
    refine g_goto cx 10 dJ7_fill_fda19_24 (by decide) ?_
    exact ihi1
  · skip
    refine g_iload (v := nI (p + (q - p))) cx dJ7_fill_fda19_10 rfl ?_
    refine g_iload_n (v := nI q) cx dJ7_fill_fda19_12 rfl ?_
    refine g_icmp_ge cx 27 dJ7_fill_fda19_13 (by decide) (fun hw2 => ?_) (fun hw2 => absurd (rf_geMP rfl rfl (by omega) (by omega) (by omega)) hw2)
    exact hret _ _ _ dJ7_fill_fda19_27 (rfl)
