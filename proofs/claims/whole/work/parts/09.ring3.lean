def b01 (x : Int32) : Prop := x = 0 ∨ x = 1
theorem rf_nb {x : Int32} (h : b01 x) : narrow .boolean (.int x) = .int x := by rcases h with rfl | rfl <;> rfl
theorem rf_fb {x : Int32} (h : b01 x) : fits .boolean (.int x) = true := by rcases h with rfl | rfl <;> rfl
def rDrop (R : S2) : S2 := u1 (u2 (u2 R 5 1 0) 5 5 0) 4 (rFill (R 4) (-9) 0 2)
def rEmpty (R : S2) : S2 := rDrop (u2 (u2 (u2 (u2 (u2 R 5 0 0) 5 4 0) 5 2 3) 5 3 0) 5 6 0)
def rCopy (R O : S2) : S2 := u2 (u2 (u2 (u2 (u2 (u2 (u2 (u1 (u1 (u1 (u1 (u1 R 0 (va_cpy (O 0) (R 0) 0 0 54)) 1 (va_cpy (O 1) (R 1) 0 0 14)) 2 (va_cpy (O 2) (R 2) 0 0 20)) 3 (va_cpy (O 3) (R 3) 0 0 8)) 4 (va_cpy (O 4) (R 4) 0 0 2)) 5 0 (O 5 0)) 5 1 (O 5 1)) 5 2 (O 5 2)) 5 3 (O 5 3)) 5 4 (O 5 4)) 5 5 (O 5 5)) 5 6 (O 5 6)
/-- the first k below n with p, else n -/
def ff (p : Nat → Bool) : Nat → Nat
  | 0 => 0
  | n + 1 => if ff p n < n then ff p n else if p n then n else n + 1
theorem ff_le (p : Nat → Bool) : ∀ n, ff p n ≤ n
  | 0 => Nat.le_refl 0
  | n + 1 => by
    have ih := ff_le p n
    simp only [ff]
    split
    · omega
    · split <;> omega
theorem ff_no (p : Nat → Bool) : ∀ n k, k < ff p n → p k = false
  | 0, k, h => absurd h (Nat.not_lt_zero k)
  | n + 1, k, h => by
    have ih := ff_no p n
    have hle := ff_le p n
    simp only [ff] at h
    split at h
    · exact ih k h
    · next h1 =>
      have e : ff p n = n := by omega
      split at h
      · exact ih k (by omega)
      · next h2 =>
        by_cases hk : k = n
        · subst hk; simpa using h2
        · exact ih k (by omega)
theorem ff_yes (p : Nat → Bool) : ∀ n, ff p n < n → p (ff p n) = true
  | 0, h => absurd h (Nat.not_lt_zero _)
  | n + 1, h => by
    have ih := ff_yes p n
    simp only [ff] at h ⊢
    split
    · next h1 => exact ih h1
    · next h1 =>
      rw [if_neg h1] at h
      split
      · next h2 => exact h2
      · next h2 => rw [if_neg h2] at h; omega
theorem fl_inv {σ : Type} {f : Nat → σ → σ} {s : σ} (P : σ → Prop) (h0 : P s) (hs : ∀ i s, P s → P (f i s)) : ∀ n, P (fl f n s)
  | 0 => h0
  | n + 1 => hs n _ (fl_inv P h0 hs n)
def rCut (R : S2) (k : Nat) : Bool := decide (R 1 (k * 2 + 1) = 1)
def eA (R : S2) (n : Nat) : Nat := ff (rCut R) n
def sJ (R : S2) (n : Nat) : Nat := ff (fun j => rCut R (n - j)) (n + 1)
def sB (R : S2) (n : Nat) : Nat := if R 5 4 = 0 then n else if sJ R n < n + 1 then n - sJ R n else n
def rSafe (R : S2) (n : Nat) : Int32 := fl (fun i a => a + R 0 (i * 9 + 6)) n 0
def rCuts (R : S2) (m : Nat) : Int32 := fl (fun i a => a + R 1 (i * 2 + 1)) m 0
def rOff (R : S2) (d : Nat) : Int32 := R 0 (d * 9 + 7) - R 0 (d * 9 + 8)
def rMin (R : S2) (n : Nat) : Int32 := fl (fun i a => if rOff R (1 + i) < a then rOff R (1 + i) else a) n (rOff R 0)
def rMax (R : S2) (n : Nat) : Int32 := fl (fun i a => if a < rOff R (1 + i) then rOff R (1 + i) else a) n (rOff R 0)
def rLen (R : S2) (a m : Nat) : Int32 := fl (fun i s => s + R 1 ((a + i) * 2 + 0)) m 0
def rTTB (x y : Int32) : Int32 := if y = 0 then -9 else 2 * x + 2 * y - 1
def rLook (R : S2) (o w : Nat) : Int32 := if w < 4 then (if o ≤ w then 0 else R 3 (w * 2 + 0)) else R 4 (w - 4)
def rLearn (R : S2) (b : Int32) (n : Nat) : S2 := fl (fun i S => if (b >>> (nI i &&& 31)) &&& 1 = 1 then u2 S 0 (i * 9 + 8) (S 0 (i * 9 + 7)) else S) n R
theorem rLearn_s (R : S2) (b : Int32) (i : Nat) : rLearn R b (i + 1) = if (b >>> (nI i &&& 31)) &&& 1 = 1 then u2 (rLearn R b i) 0 (i * 9 + 8) ((rLearn R b i) 0 (i * 9 + 7)) else rLearn R b i := rfl
theorem rLearn_5 (R : S2) (b : Int32) (n : Nat) : (rLearn R b n) 5 = R 5 := fl_inv (σ := S2) (fun S => S 5 = R 5) rfl (fun i S h => by
  by_cases c : (b >>> (nI i &&& 31)) &&& 1 = 1
  · simp only [if_pos c]; rw [u2_n (by decide)]; exact h
  · simp only [if_neg c]; exact h) n
def rM1 (R : S2) (d : Nat) : S2 := u2 R 0 (d * 9 + 5) (R 0 (d * 9 + 5) + 1)
def rMz (R : S2) (d n : Nat) : S2 := fl (fun i S => u2 S 0 (d * 9 + (1 + i)) 0) n (u2 (rM1 R d) 0 (d * 9 + 6) 1)
def rMiss (R : S2) (d : Nat) : S2 := if R 0 (d * 9 + 5) + 1 < R 5 2 then rM1 R d else if (rM1 R d) 0 (d * 9 + 6) = 1 then rM1 R d else rMz R d 4
def rTurn (R : S2) (n m : Nat) : Int32 := if ¬ R 5 4 = 0 ∧ rCuts R m = 0 then 0 else (((1 : Int32) <<< (nI (eA R n) &&& 31)) - 1) ||| (((1 : Int32) <<< (R 5 0 &&& 31)) - ((1 : Int32) <<< (nI (sB R n) &&& 31)))
theorem nI_int {n : Nat} (h : n < 1073741824) : (nI n - 1).toInt = (n : Int) - 1 := pk_sub_toInt (b := 1) h (by decide)
theorem rf_predP {a b : Nat} (ha : a < 1073741824) (hb : b < 1073741824) (h : b ≤ a) : nI b - 1 < nI a := by
  rw [Int32.lt_iff_toInt_lt, nI_int hb, nI_toInt (by omega)]; omega
theorem rf_predN {a b : Nat} (ha : a < 1073741824) (hb : b < 1073741824) (h : a < b) : ¬ nI b - 1 < nI a := by
  rw [Int32.lt_iff_toInt_lt, nI_int hb, nI_toInt (by omega)]; omega
theorem nI_m1 (n : Nat) : nI (n + 1) - 1 = nI n := nI_pred n
theorem rf_dec (x : Int32) (j : Nat) : x - nI j + (-1) = x - nI (j + 1) := by
  rw [← nI_1 j]; simp only [Int32.sub_eq_add_neg, Int32.neg_add, Int32.add_assoc]
def rNewLink (R : S2) (k : Nat) (v : Int32) : S2 := u2 (u2 R 1 (k * 2 + 0) v) 1 (k * 2 + 1) 0
def rAddDrive (R : S2) (n : Nat) (len sta : Int32) : S2 := u2 (rNewLink (u2 (u1 R 0 (rFill (R 0) 0 (n * 9) ((n * 9 + 9) - (n * 9)))) 0 (n * 9 + 0) sta) n len) 5 0 (R 5 0 + 1)
def rCloseBy (R : S2) (n : Nat) (len : Int32) : S2 := u2 (rNewLink R n len) 5 4 1
def rAddOrder (R : S2) (o : Nat) (x1 x2 x3 x4 x5 : Int32) : S2 := u2 (u2 (u2 (u2 (u2 (u2 R 2 (o * 5 + 0) x1) 2 (o * 5 + 1) x2) 2 (o * 5 + 2) x3) 2 (o * 5 + 3) x4) 2 (o * 5 + 4) x5) 5 1 (R 5 1 + 1)
def rTimesT (R : S2) (n : Nat) : S2 := u2 (u2 R 4 0 (rTTB (rLen R 0 (eA R n)) (nI (eA R n)))) 4 1 (rTTB (rLen R (sB R n + 1) (n - sB R n)) (R 5 0 - nI (sB R n)))
def rm_X3_hasLink : Room := { frames := 1, cells := 0, slots := 0, locals := 20 }
set_option maxRecDepth 100000 in
set_option maxHeartbeats 4000000 in
theorem c_X3_hasLink (V : VT) (ad : Nat → Nat) (R : S2) (d : Int32) : CI V yX3_hasLink cX3_hasLink 2 .boolean rm_X3_hasLink [.ref (ad 0), .int d] (wRing V ad R) (fun r_ w_ => r_ = bI (¬ d < 0 ∧ ¬ rLinks R ≤ d) ∧ w_ = wRing V ad R) := by
  refine CI_intro (by decide) (Nat.le_of_ble_eq_true rfl) (fun K cx hret => ?_)
  show G V K 2 0 0 (wRing V ad R) 0 [(0, .ref (ad 0)), (1, .int d)] []
  refine g_iload_n (v := d) cx dX3_hasLink_0 rfl ?_
  refine g_if_lt cx 16 dX3_hasLink_1 (by decide) (fun hw1 => ?_) (fun hw1 => ?_)
  · skip
    refine g_iconst (v := 0) cx dX3_hasLink_16 (by decide) ?_
    exact hret _ _ _ _ dX3_hasLink_17 (by first | rfl | exact rf_bnar) (⟨by simp only [bI, hw1, not_true_eq_false, not_false_eq_true, and_true, true_and, and_false, false_and, or_true, true_or, or_false, false_or, if_true, if_false], rfl⟩)
  · skip
    refine g_iload_n (v := d) cx dX3_hasLink_4 rfl ?_
    refine g_aload_n (v := ad 0) cx dX3_hasLink_5 rfl ?_
    refine k_calli (r0 := rLinks R) (ws' := wRing V ad R) (As := []) (rest := [.int d]) cx (c_X3_links V ad R) ml_X3_92 dX3_hasLink_6 [0, 1, 2, 3, 4, 5] rfl rfl [ad 0, ad 1, ad 2, ad 3, ad 4, ad 5] rfl rfl rfl 0 3 rfl rfl rfl rfl rfl (Nat.le_of_ble_eq_true rfl) ⟨Nat.le_of_ble_eq_true rfl, Nat.le_of_ble_eq_true rfl⟩ ⟨Nat.le_refl _, Nat.le_refl _⟩ ?_
    refine g_icmp_ge cx 16 dX3_hasLink_9 (by decide) (fun hw2 => ?_) (fun hw2 => ?_)
    · skip
      refine g_iconst (v := 0) cx dX3_hasLink_16 (by decide) ?_
      exact hret _ _ _ _ dX3_hasLink_17 (by first | rfl | exact rf_bnar) (⟨by simp only [bI, hw1, hw2, not_true_eq_false, not_false_eq_true, and_true, true_and, and_false, false_and, or_true, true_or, or_false, false_or, if_true, if_false], rfl⟩)
    · skip
      refine g_iconst (v := 1) cx dX3_hasLink_12 (by decide) ?_
      refine g_goto cx 17 dX3_hasLink_13 (by decide) ?_
      exact hret _ _ _ _ dX3_hasLink_17 (by first | rfl | exact rf_bnar) (⟨by simp only [bI, hw1, hw2, not_true_eq_false, not_false_eq_true, and_true, true_and, and_false, false_and, or_true, true_or, or_false, false_or, if_true, if_false], rfl⟩)
def rm_X3_isSafe : Room := { frames := 0, cells := 0, slots := 0, locals := 0 }
set_option maxRecDepth 100000 in
set_option maxHeartbeats 4000000 in
theorem c_X3_isSafe (V : VT) (ad : Nat → Nat) (R : S2) (x : Int32) (k : Nat) (hk : x * 9 + 6 = nI k) (hk2 : k < 54) : CI V yX3_isSafe cX3_isSafe 2 .boolean rm_X3_isSafe [.ref (ad 0), .int x] (wRing V ad R) (fun r_ w_ => r_ = bI (R 0 k = 1) ∧ w_ = wRing V ad R) := by
  refine CI_intro (by decide) (Nat.le_of_ble_eq_true rfl) (fun K cx hret => ?_)
  show G V K 2 0 0 (wRing V ad R) 0 [(0, .ref (ad 0)), (1, .int x)] []
  refine g_aload_n (v := ad 0) cx dX3_isSafe_0 rfl ?_
  refine g_get (v := .ref (ad 1)) cx fk_X3_9 dX3_isSafe_1 0 rfl rfl ?_
  refine g_iload_n (v := x) cx dX3_isSafe_4 rfl ?_
  refine g_bipush (v := 9) cx dX3_isSafe_5 (by decide) ?_
  refine g_imul cx dX3_isSafe_7 ?_
  refine g_bipush (v := 6) cx dX3_isSafe_8 (by decide) ?_
  refine g_iadd cx dX3_isSafe_10 ?_
  refine g_iald cx dX3_isSafe_11 1 k rfl (hk) (hk2) (by first | decide | omega) ?_
  refine g_iconst (v := 1) cx dX3_isSafe_12 (by decide) ?_
  refine g_icmp_ne cx 20 dX3_isSafe_13 (by decide) (fun hw1 => ?_) (fun hw1 => ?_)
  · skip
    refine g_iconst (v := 0) cx dX3_isSafe_20 (by decide) ?_
    exact hret _ _ _ _ dX3_isSafe_21 (by first | rfl | exact rf_bnar) (⟨by simp only [bI, hw1, not_true_eq_false, not_false_eq_true, and_true, true_and, and_false, false_and, or_true, true_or, or_false, false_or, if_true, if_false], rfl⟩)
  · skip
    refine g_iconst (v := 1) cx dX3_isSafe_16 (by decide) ?_
    refine g_goto cx 21 dX3_isSafe_17 (by decide) ?_
    exact hret _ _ _ _ dX3_isSafe_21 (by first | rfl | exact rf_bnar) (⟨by simp only [bI, hw1, not_true_eq_false, not_false_eq_true, and_true, true_and, and_false, false_and, or_true, true_or, or_false, false_or, if_true, if_false], rfl⟩)
def rm_X3_isCut : Room := { frames := 0, cells := 0, slots := 0, locals := 0 }
set_option maxRecDepth 100000 in
set_option maxHeartbeats 4000000 in
theorem c_X3_isCut (V : VT) (ad : Nat → Nat) (R : S2) (x : Int32) (k : Nat) (hk : x * 2 + 1 = nI k) (hk2 : k < 14) : CI V yX3_isCut cX3_isCut 2 .boolean rm_X3_isCut [.ref (ad 0), .int x] (wRing V ad R) (fun r_ w_ => r_ = bI (R 1 k = 1) ∧ w_ = wRing V ad R) := by
  refine CI_intro (by decide) (Nat.le_of_ble_eq_true rfl) (fun K cx hret => ?_)
  show G V K 2 0 0 (wRing V ad R) 0 [(0, .ref (ad 0)), (1, .int x)] []
  refine g_aload_n (v := ad 0) cx dX3_isCut_0 rfl ?_
  refine g_get (v := .ref (ad 2)) cx fk_X3_15 dX3_isCut_1 0 rfl rfl ?_
  refine g_iload_n (v := x) cx dX3_isCut_4 rfl ?_
  refine g_iconst (v := 2) cx dX3_isCut_5 (by decide) ?_
  refine g_imul cx dX3_isCut_6 ?_
  refine g_iconst (v := 1) cx dX3_isCut_7 (by decide) ?_
  refine g_iadd cx dX3_isCut_8 ?_
  refine g_iald cx dX3_isCut_9 2 k rfl (hk) (hk2) (by first | decide | omega) ?_
  refine g_iconst (v := 1) cx dX3_isCut_10 (by decide) ?_
  refine g_icmp_ne cx 18 dX3_isCut_11 (by decide) (fun hw1 => ?_) (fun hw1 => ?_)
  · skip
    refine g_iconst (v := 0) cx dX3_isCut_18 (by decide) ?_
    exact hret _ _ _ _ dX3_isCut_19 (by first | rfl | exact rf_bnar) (⟨by simp only [bI, hw1, not_true_eq_false, not_false_eq_true, and_true, true_and, and_false, false_and, or_true, true_or, or_false, false_or, if_true, if_false], rfl⟩)
  · skip
    refine g_iconst (v := 1) cx dX3_isCut_14 (by decide) ?_
    refine g_goto cx 19 dX3_isCut_15 (by decide) ?_
    exact hret _ _ _ _ dX3_isCut_19 (by first | rfl | exact rf_bnar) (⟨by simp only [bI, hw1, not_true_eq_false, not_false_eq_true, and_true, true_and, and_false, false_and, or_true, true_or, or_false, false_or, if_true, if_false], rfl⟩)
def rm_X3_dropFrame : Room := { frames := 1, cells := 0, slots := 0, locals := 23 }
set_option maxRecDepth 100000 in
set_option maxHeartbeats 4000000 in
theorem c_X3_dropFrame (V : VT) (ad : Nat → Nat) (R : S2) : CV V yX3_dropFrame cX3_dropFrame 1 rm_X3_dropFrame [.ref (ad 0)] (wRing V ad R) (fun w_ => w_ = wRing V ad (rDrop R)) := by
  refine CV_intro (by decide) (Nat.le_of_ble_eq_true rfl) (fun K cx hci hret => ?_)
  show G V K 1 0 0 (wRing V ad R) 0 [(0, .ref (ad 0))] []
  refine g_aload_n (v := ad 0) cx dX3_dropFrame_0 rfl ?_
  refine g_iconst (v := 0) cx dX3_dropFrame_1 (by decide) ?_
  refine g_put (ws' := wRing V ad (u2 R 5 1 0)) cx fk_X3_54 dX3_dropFrame_2 0 rfl (rfl) (rfl) (Nat.le_of_ble_eq_true rfl) rfl ?_
  refine g_aload_n (v := ad 0) cx dX3_dropFrame_5 rfl ?_
  refine g_iconst (v := 0) cx dX3_dropFrame_6 (by decide) ?_
  refine g_put (ws' := wRing V ad (u2 (u2 R 5 1 0) 5 5 0)) cx fk_X3_57 dX3_dropFrame_7 0 rfl (rfl) (rfl) (Nat.le_of_ble_eq_true rfl) rfl ?_
  refine g_aload_n (v := ad 0) cx dX3_dropFrame_10 rfl ?_
  refine g_get (v := .ref (ad 5)) cx fk_X3_24 dX3_dropFrame_11 0 rfl rfl ?_
  refine g_bipush (v := (-9)) cx dX3_dropFrame_14 (by decide) ?_
  refine k_callsv (ws' := wRing V ad (u1 (u2 (u2 R 5 1 0) 5 5 0) 4 (rFill (R 4) (-9) 0 2))) (As := [.ref (ad 5), .int (-9)]) (rest := []) cx (c_J7_fill_53178 V (ad 5) 2 (R 4) (-9) (by decide)) ml_X3_60 dX3_dropFrame_16 [5] rfl rfl [ad 5] rfl rfl rfl rfl rfl (Nat.le_of_ble_eq_true rfl) ⟨Nat.le_of_ble_eq_true rfl, Nat.le_of_ble_eq_true rfl⟩ ⟨Nat.le_refl _, Nat.le_refl _⟩ ?_
  exact hret _ _ _ dX3_dropFrame_19 (rfl)
def rm_X3_becomeEmpty : Room := { frames := 2, cells := 0, slots := 0, locals := 43 }
set_option maxRecDepth 100000 in
set_option maxHeartbeats 4000000 in
theorem c_X3_becomeEmpty (V : VT) (ad : Nat → Nat) (R : S2) : CV V yX3_becomeEmpty cX3_becomeEmpty 1 rm_X3_becomeEmpty [.ref (ad 0)] (wRing V ad R) (fun w_ => w_ = wRing V ad (rEmpty R)) := by
  refine CV_intro (by decide) (Nat.le_of_ble_eq_true rfl) (fun K cx hci hret => ?_)
  show G V K 1 0 0 (wRing V ad R) 0 [(0, .ref (ad 0))] []
  refine g_aload_n (v := ad 0) cx dX3_becomeEmpty_0 rfl ?_
  refine g_iconst (v := 0) cx dX3_becomeEmpty_1 (by decide) ?_
  refine g_put (ws' := wRing V ad (u2 R 5 0 0)) cx fk_X3_34 dX3_becomeEmpty_2 0 rfl (rfl) (rfl) (Nat.le_of_ble_eq_true rfl) rfl ?_
  refine g_aload_n (v := ad 0) cx dX3_becomeEmpty_5 rfl ?_
  refine g_iconst (v := 0) cx dX3_becomeEmpty_6 (by decide) ?_
  refine g_put (ws' := wRing V ad (u2 (u2 R 5 0 0) 5 4 0)) cx fk_X3_38 dX3_becomeEmpty_7 0 rfl (rfl) (rfl) (Nat.le_of_ble_eq_true rfl) rfl ?_
  refine g_aload_n (v := ad 0) cx dX3_becomeEmpty_10 rfl ?_
  refine g_iconst (v := 3) cx dX3_becomeEmpty_11 (by decide) ?_
  refine g_put (ws' := wRing V ad (u2 (u2 (u2 R 5 0 0) 5 4 0) 5 2 3)) cx fk_X3_42 dX3_becomeEmpty_12 0 rfl (rfl) (rfl) (Nat.le_of_ble_eq_true rfl) rfl ?_
  refine g_aload_n (v := ad 0) cx dX3_becomeEmpty_15 rfl ?_
  refine g_iconst (v := 0) cx dX3_becomeEmpty_16 (by decide) ?_
  refine g_put (ws' := wRing V ad (u2 (u2 (u2 (u2 R 5 0 0) 5 4 0) 5 2 3) 5 3 0)) cx fk_X3_45 dX3_becomeEmpty_17 0 rfl (rfl) (rfl) (Nat.le_of_ble_eq_true rfl) rfl ?_
  refine g_aload_n (v := ad 0) cx dX3_becomeEmpty_20 rfl ?_
  refine g_iconst (v := 0) cx dX3_becomeEmpty_21 (by decide) ?_
  refine g_put (ws' := wRing V ad (u2 (u2 (u2 (u2 (u2 R 5 0 0) 5 4 0) 5 2 3) 5 3 0) 5 6 0)) cx fk_X3_48 dX3_becomeEmpty_22 0 rfl (rfl) (rfl) (Nat.le_of_ble_eq_true rfl) rfl ?_
  refine g_aload_n (v := ad 0) cx dX3_becomeEmpty_25 rfl ?_
  refine k_callv (ws' := wRing V ad (rDrop (u2 (u2 (u2 (u2 (u2 R 5 0 0) 5 4 0) 5 2 3) 5 3 0) 5 6 0))) (As := []) (rest := []) cx (c_X3_dropFrame V ad (u2 (u2 (u2 (u2 (u2 R 5 0 0) 5 4 0) 5 2 3) 5 3 0) 5 6 0)) ml_X3_51 dX3_becomeEmpty_26 [0, 1, 2, 3, 4, 5] rfl rfl [ad 0, ad 1, ad 2, ad 3, ad 4, ad 5] rfl rfl rfl 0 3 rfl rfl rfl rfl rfl (Nat.le_of_ble_eq_true rfl) ⟨Nat.le_of_ble_eq_true rfl, Nat.le_of_ble_eq_true rfl⟩ ⟨Nat.le_refl _, Nat.le_refl _⟩ ?_
  exact hret _ _ _ dX3_becomeEmpty_29 (rfl)
def rm_X3_copyFrom : Room := { frames := 1, cells := 0, slots := 0, locals := 26 }
set_option maxRecDepth 100000 in
set_option maxHeartbeats 4000000 in
theorem c_X3_copyFrom (V : VT) (ad : Nat → Nat) (R : S2) (bd : Nat → Nat) (O : S2) (h4 : b01 (O 5 4)) (h5 : b01 (O 5 5)) (h6 : b01 (O 5 6)) : CV V yX3_copyFrom cX3_copyFrom 2 rm_X3_copyFrom [.ref (ad 0), .ref (bd 0)] (wRing V ad R ++ wRing V bd O) (fun w_ => w_ = wRing V ad (rCopy R O) ++ wRing V bd O) := by
  refine CV_intro (by decide) (Nat.le_of_ble_eq_true rfl) (fun K cx hci hret => ?_)
  show G V K 2 0 0 (wRing V ad R ++ wRing V bd O) 0 [(0, .ref (ad 0)), (1, .ref (bd 0))] []
  refine g_aload_n (v := bd 0) cx dX3_copyFrom_0 rfl ?_
  refine g_get (v := .ref (bd 1)) cx fk_X3_9 dX3_copyFrom_1 6 rfl rfl ?_
  refine g_iconst (v := 0) cx dX3_copyFrom_4 (by decide) ?_
  refine g_aload_n (v := ad 0) cx dX3_copyFrom_5 rfl ?_
  refine g_get (v := .ref (ad 1)) cx fk_X3_9 dX3_copyFrom_6 0 rfl rfl ?_
  refine g_iconst (v := 0) cx dX3_copyFrom_9 (by decide) ?_
  refine g_aload_n (v := ad 0) cx dX3_copyFrom_10 rfl ?_
  refine g_get (v := .ref (ad 1)) cx fk_X3_9 dX3_copyFrom_11 0 rfl rfl ?_
  refine g_alen (ty := 0) (v := 54) cx dX3_copyFrom_14 1 rfl rfl ?_
  refine g_copy (ws' := wRing V ad (u1 R 0 (va_cpy (O 0) (R 0) 0 0 54)) ++ wRing V bd O) cx ml_X3_66 dX3_copyFrom_15 7 1 rfl rfl rfl rfl rfl (by decide) (Nat.le_of_ble_eq_true rfl) (Nat.le_of_ble_eq_true rfl) rfl ?_
  refine g_aload_n (v := bd 0) cx dX3_copyFrom_18 rfl ?_
  refine g_get (v := .ref (bd 2)) cx fk_X3_15 dX3_copyFrom_19 6 rfl rfl ?_
  refine g_iconst (v := 0) cx dX3_copyFrom_22 (by decide) ?_
  refine g_aload_n (v := ad 0) cx dX3_copyFrom_23 rfl ?_
  refine g_get (v := .ref (ad 2)) cx fk_X3_15 dX3_copyFrom_24 0 rfl rfl ?_
  refine g_iconst (v := 0) cx dX3_copyFrom_27 (by decide) ?_
  refine g_aload_n (v := ad 0) cx dX3_copyFrom_28 rfl ?_
  refine g_get (v := .ref (ad 2)) cx fk_X3_15 dX3_copyFrom_29 0 rfl rfl ?_
  refine g_alen (ty := 0) (v := 14) cx dX3_copyFrom_32 2 rfl rfl ?_
  refine g_copy (ws' := wRing V ad (u1 (u1 R 0 (va_cpy (O 0) (R 0) 0 0 54)) 1 (va_cpy (O 1) (R 1) 0 0 14)) ++ wRing V bd O) cx ml_X3_66 dX3_copyFrom_33 8 2 rfl rfl rfl rfl rfl (by decide) (Nat.le_of_ble_eq_true rfl) (Nat.le_of_ble_eq_true rfl) rfl ?_
  refine g_aload_n (v := bd 0) cx dX3_copyFrom_36 rfl ?_
  refine g_get (v := .ref (bd 3)) cx fk_X3_18 dX3_copyFrom_37 6 rfl rfl ?_
  refine g_iconst (v := 0) cx dX3_copyFrom_40 (by decide) ?_
  refine g_aload_n (v := ad 0) cx dX3_copyFrom_41 rfl ?_
  refine g_get (v := .ref (ad 3)) cx fk_X3_18 dX3_copyFrom_42 0 rfl rfl ?_
  refine g_iconst (v := 0) cx dX3_copyFrom_45 (by decide) ?_
  refine g_aload_n (v := ad 0) cx dX3_copyFrom_46 rfl ?_
  refine g_get (v := .ref (ad 3)) cx fk_X3_18 dX3_copyFrom_47 0 rfl rfl ?_
  refine g_alen (ty := 0) (v := 20) cx dX3_copyFrom_50 3 rfl rfl ?_
  refine g_copy (ws' := wRing V ad (u1 (u1 (u1 R 0 (va_cpy (O 0) (R 0) 0 0 54)) 1 (va_cpy (O 1) (R 1) 0 0 14)) 2 (va_cpy (O 2) (R 2) 0 0 20)) ++ wRing V bd O) cx ml_X3_66 dX3_copyFrom_51 9 3 rfl rfl rfl rfl rfl (by decide) (Nat.le_of_ble_eq_true rfl) (Nat.le_of_ble_eq_true rfl) rfl ?_
  refine g_aload_n (v := bd 0) cx dX3_copyFrom_54 rfl ?_
  refine g_get (v := .ref (bd 4)) cx fk_X3_21 dX3_copyFrom_55 6 rfl rfl ?_
  refine g_iconst (v := 0) cx dX3_copyFrom_58 (by decide) ?_
  refine g_aload_n (v := ad 0) cx dX3_copyFrom_59 rfl ?_
  refine g_get (v := .ref (ad 4)) cx fk_X3_21 dX3_copyFrom_60 0 rfl rfl ?_
  refine g_iconst (v := 0) cx dX3_copyFrom_63 (by decide) ?_
  refine g_aload_n (v := ad 0) cx dX3_copyFrom_64 rfl ?_
  refine g_get (v := .ref (ad 4)) cx fk_X3_21 dX3_copyFrom_65 0 rfl rfl ?_
  refine g_alen (ty := 0) (v := 8) cx dX3_copyFrom_68 4 rfl rfl ?_
  refine g_copy (ws' := wRing V ad (u1 (u1 (u1 (u1 R 0 (va_cpy (O 0) (R 0) 0 0 54)) 1 (va_cpy (O 1) (R 1) 0 0 14)) 2 (va_cpy (O 2) (R 2) 0 0 20)) 3 (va_cpy (O 3) (R 3) 0 0 8)) ++ wRing V bd O) cx ml_X3_66 dX3_copyFrom_69 10 4 rfl rfl rfl rfl rfl (by decide) (Nat.le_of_ble_eq_true rfl) (Nat.le_of_ble_eq_true rfl) rfl ?_
  refine g_aload_n (v := bd 0) cx dX3_copyFrom_72 rfl ?_
  refine g_get (v := .ref (bd 5)) cx fk_X3_24 dX3_copyFrom_73 6 rfl rfl ?_
  refine g_iconst (v := 0) cx dX3_copyFrom_76 (by decide) ?_
  refine g_aload_n (v := ad 0) cx dX3_copyFrom_77 rfl ?_
  refine g_get (v := .ref (ad 5)) cx fk_X3_24 dX3_copyFrom_78 0 rfl rfl ?_
  refine g_iconst (v := 0) cx dX3_copyFrom_81 (by decide) ?_
  refine g_aload_n (v := ad 0) cx dX3_copyFrom_82 rfl ?_
  refine g_get (v := .ref (ad 5)) cx fk_X3_24 dX3_copyFrom_83 0 rfl rfl ?_
  refine g_alen (ty := 0) (v := 2) cx dX3_copyFrom_86 5 rfl rfl ?_
  refine g_copy (ws' := wRing V ad (u1 (u1 (u1 (u1 (u1 R 0 (va_cpy (O 0) (R 0) 0 0 54)) 1 (va_cpy (O 1) (R 1) 0 0 14)) 2 (va_cpy (O 2) (R 2) 0 0 20)) 3 (va_cpy (O 3) (R 3) 0 0 8)) 4 (va_cpy (O 4) (R 4) 0 0 2)) ++ wRing V bd O) cx ml_X3_66 dX3_copyFrom_87 11 5 rfl rfl rfl rfl rfl (by decide) (Nat.le_of_ble_eq_true rfl) (Nat.le_of_ble_eq_true rfl) rfl ?_
  refine g_aload_n (v := ad 0) cx dX3_copyFrom_90 rfl ?_
  refine g_aload_n (v := bd 0) cx dX3_copyFrom_91 rfl ?_
  refine g_get (v := .int (O 5 0)) cx fk_X3_34 dX3_copyFrom_92 6 rfl rfl ?_
  refine g_put (ws' := wRing V ad (u2 (u1 (u1 (u1 (u1 (u1 R 0 (va_cpy (O 0) (R 0) 0 0 54)) 1 (va_cpy (O 1) (R 1) 0 0 14)) 2 (va_cpy (O 2) (R 2) 0 0 20)) 3 (va_cpy (O 3) (R 3) 0 0 8)) 4 (va_cpy (O 4) (R 4) 0 0 2)) 5 0 (O 5 0)) ++ wRing V bd O) cx fk_X3_34 dX3_copyFrom_95 0 rfl (rfl) (rfl) (Nat.le_of_ble_eq_true rfl) rfl ?_
  refine g_aload_n (v := ad 0) cx dX3_copyFrom_98 rfl ?_
  refine g_aload_n (v := bd 0) cx dX3_copyFrom_99 rfl ?_
  refine g_get (v := .int (O 5 1)) cx fk_X3_54 dX3_copyFrom_100 6 rfl rfl ?_
  refine g_put (ws' := wRing V ad (u2 (u2 (u1 (u1 (u1 (u1 (u1 R 0 (va_cpy (O 0) (R 0) 0 0 54)) 1 (va_cpy (O 1) (R 1) 0 0 14)) 2 (va_cpy (O 2) (R 2) 0 0 20)) 3 (va_cpy (O 3) (R 3) 0 0 8)) 4 (va_cpy (O 4) (R 4) 0 0 2)) 5 0 (O 5 0)) 5 1 (O 5 1)) ++ wRing V bd O) cx fk_X3_54 dX3_copyFrom_103 0 rfl (rfl) (rfl) (Nat.le_of_ble_eq_true rfl) rfl ?_
  refine g_aload_n (v := ad 0) cx dX3_copyFrom_106 rfl ?_
  refine g_aload_n (v := bd 0) cx dX3_copyFrom_107 rfl ?_
  refine g_get (v := .int (O 5 2)) cx fk_X3_42 dX3_copyFrom_108 6 rfl rfl ?_
  refine g_put (ws' := wRing V ad (u2 (u2 (u2 (u1 (u1 (u1 (u1 (u1 R 0 (va_cpy (O 0) (R 0) 0 0 54)) 1 (va_cpy (O 1) (R 1) 0 0 14)) 2 (va_cpy (O 2) (R 2) 0 0 20)) 3 (va_cpy (O 3) (R 3) 0 0 8)) 4 (va_cpy (O 4) (R 4) 0 0 2)) 5 0 (O 5 0)) 5 1 (O 5 1)) 5 2 (O 5 2)) ++ wRing V bd O) cx fk_X3_42 dX3_copyFrom_111 0 rfl (rfl) (rfl) (Nat.le_of_ble_eq_true rfl) rfl ?_
  refine g_aload_n (v := ad 0) cx dX3_copyFrom_114 rfl ?_
  refine g_aload_n (v := bd 0) cx dX3_copyFrom_115 rfl ?_
  refine g_get (v := .int (O 5 3)) cx fk_X3_45 dX3_copyFrom_116 6 rfl rfl ?_
  refine g_put (ws' := wRing V ad (u2 (u2 (u2 (u2 (u1 (u1 (u1 (u1 (u1 R 0 (va_cpy (O 0) (R 0) 0 0 54)) 1 (va_cpy (O 1) (R 1) 0 0 14)) 2 (va_cpy (O 2) (R 2) 0 0 20)) 3 (va_cpy (O 3) (R 3) 0 0 8)) 4 (va_cpy (O 4) (R 4) 0 0 2)) 5 0 (O 5 0)) 5 1 (O 5 1)) 5 2 (O 5 2)) 5 3 (O 5 3)) ++ wRing V bd O) cx fk_X3_45 dX3_copyFrom_119 0 rfl (rfl) (rfl) (Nat.le_of_ble_eq_true rfl) rfl ?_
  refine g_aload_n (v := ad 0) cx dX3_copyFrom_122 rfl ?_
  refine g_aload_n (v := bd 0) cx dX3_copyFrom_123 rfl ?_
  refine g_get (v := .int (O 5 4)) cx fk_X3_38 dX3_copyFrom_124 6 rfl rfl ?_
  refine g_put (ws' := wRing V ad (u2 (u2 (u2 (u2 (u2 (u1 (u1 (u1 (u1 (u1 R 0 (va_cpy (O 0) (R 0) 0 0 54)) 1 (va_cpy (O 1) (R 1) 0 0 14)) 2 (va_cpy (O 2) (R 2) 0 0 20)) 3 (va_cpy (O 3) (R 3) 0 0 8)) 4 (va_cpy (O 4) (R 4) 0 0 2)) 5 0 (O 5 0)) 5 1 (O 5 1)) 5 2 (O 5 2)) 5 3 (O 5 3)) 5 4 (O 5 4)) ++ wRing V bd O) cx fk_X3_38 dX3_copyFrom_127 0 rfl (rf_nb h4) (rf_fb h4) (Nat.le_of_ble_eq_true rfl) rfl ?_
  refine g_aload_n (v := ad 0) cx dX3_copyFrom_130 rfl ?_
  refine g_aload_n (v := bd 0) cx dX3_copyFrom_131 rfl ?_
  refine g_get (v := .int (O 5 5)) cx fk_X3_57 dX3_copyFrom_132 6 rfl rfl ?_
  refine g_put (ws' := wRing V ad (u2 (u2 (u2 (u2 (u2 (u2 (u1 (u1 (u1 (u1 (u1 R 0 (va_cpy (O 0) (R 0) 0 0 54)) 1 (va_cpy (O 1) (R 1) 0 0 14)) 2 (va_cpy (O 2) (R 2) 0 0 20)) 3 (va_cpy (O 3) (R 3) 0 0 8)) 4 (va_cpy (O 4) (R 4) 0 0 2)) 5 0 (O 5 0)) 5 1 (O 5 1)) 5 2 (O 5 2)) 5 3 (O 5 3)) 5 4 (O 5 4)) 5 5 (O 5 5)) ++ wRing V bd O) cx fk_X3_57 dX3_copyFrom_135 0 rfl (rf_nb h5) (rf_fb h5) (Nat.le_of_ble_eq_true rfl) rfl ?_
  refine g_aload_n (v := ad 0) cx dX3_copyFrom_138 rfl ?_
  refine g_aload_n (v := bd 0) cx dX3_copyFrom_139 rfl ?_
  refine g_get (v := .int (O 5 6)) cx fk_X3_48 dX3_copyFrom_140 6 rfl rfl ?_
  refine g_put (ws' := wRing V ad (u2 (u2 (u2 (u2 (u2 (u2 (u2 (u1 (u1 (u1 (u1 (u1 R 0 (va_cpy (O 0) (R 0) 0 0 54)) 1 (va_cpy (O 1) (R 1) 0 0 14)) 2 (va_cpy (O 2) (R 2) 0 0 20)) 3 (va_cpy (O 3) (R 3) 0 0 8)) 4 (va_cpy (O 4) (R 4) 0 0 2)) 5 0 (O 5 0)) 5 1 (O 5 1)) 5 2 (O 5 2)) 5 3 (O 5 3)) 5 4 (O 5 4)) 5 5 (O 5 5)) 5 6 (O 5 6)) ++ wRing V bd O) cx fk_X3_48 dX3_copyFrom_143 0 rfl (rf_nb h6) (rf_fb h6) (Nat.le_of_ble_eq_true rfl) rfl ?_
  exact hret _ _ _ dX3_copyFrom_146 (rfl)
def rm_X3_putNewLink : Room := { frames := 1, cells := 0, slots := 0, locals := 23 }
set_option maxRecDepth 100000 in
set_option maxHeartbeats 4000000 in
theorem c_X3_putNewLink (V : VT) (ad : Nat → Nat) (R : S2) (x v : Int32) (k : Nat) (hx : x = nI k) (hk : k < 7) : CV V yX3_putNewLink cX3_putNewLink 3 rm_X3_putNewLink [.ref (ad 0), .int x, .int v] (wRing V ad R) (fun w_ => w_ = wRing V ad (u2 (u2 R 1 (k * 2 + 0) v) 1 (k * 2 + 1) 0)) := by
  refine CV_intro (by decide) (Nat.le_of_ble_eq_true rfl) (fun K cx hci hret => ?_)
  show G V K 3 0 0 (wRing V ad R) 0 [(0, .ref (ad 0)), (1, .int x), (2, .int v)] []
  refine g_aload_n (v := ad 0) cx dX3_putNewLink_0 rfl ?_
  refine g_iload_n (v := x) cx dX3_putNewLink_1 rfl ?_
  refine g_iconst (v := 0) cx dX3_putNewLink_2 (by decide) ?_
  refine g_iload_n (v := v) cx dX3_putNewLink_3 rfl ?_
  refine k_callv (ws' := wRing V ad (u2 R 1 (k * 2 + 0) v)) (As := [.int x, .int 0, .int v]) (rest := []) cx (c_X3_putLink V ad R x 0 v (k * 2 + 0) (rf_add (rf_mul hx rfl) (nl 0)) (by omega)) ml_X3_85 dX3_putNewLink_4 [0, 1, 2, 3, 4, 5] rfl rfl [ad 0, ad 1, ad 2, ad 3, ad 4, ad 5] rfl rfl rfl 0 3 rfl rfl rfl rfl rfl (Nat.le_of_ble_eq_true rfl) ⟨Nat.le_of_ble_eq_true rfl, Nat.le_of_ble_eq_true rfl⟩ ⟨Nat.le_refl _, Nat.le_refl _⟩ ?_
  refine g_aload_n (v := ad 0) cx dX3_putNewLink_7 rfl ?_
  refine g_iload_n (v := x) cx dX3_putNewLink_8 rfl ?_
  refine g_iconst (v := 1) cx dX3_putNewLink_9 (by decide) ?_
  refine g_iconst (v := 0) cx dX3_putNewLink_10 (by decide) ?_
  refine k_callv (ws' := wRing V ad (u2 (u2 R 1 (k * 2 + 0) v) 1 (k * 2 + 1) 0)) (As := [.int x, .int 1, .int 0]) (rest := []) cx (c_X3_putLink V ad (u2 R 1 (k * 2 + 0) v) x 1 0 (k * 2 + 1) (rf_add (rf_mul hx rfl) (nl 1)) (by omega)) ml_X3_85 dX3_putNewLink_11 [0, 1, 2, 3, 4, 5] rfl rfl [ad 0, ad 1, ad 2, ad 3, ad 4, ad 5] rfl rfl rfl 0 3 rfl rfl rfl rfl rfl (Nat.le_of_ble_eq_true rfl) ⟨Nat.le_of_ble_eq_true rfl, Nat.le_of_ble_eq_true rfl⟩ ⟨Nat.le_refl _, Nat.le_refl _⟩ ?_
  exact hret _ _ _ dX3_putNewLink_14 (rfl)
def rm_X3_addDrive : Room := { frames := 2, cells := 0, slots := 0, locals := 46 }
set_option maxRecDepth 100000 in
set_option maxHeartbeats 4000000 in
theorem c_X3_addDrive (V : VT) (ad : Nat → Nat) (R : S2) (len sta : Int32) (n : Nat) (hn : R 5 0 = nI n) (hn6 : n ≤ 6) (hn5 : n < 6) (hc : R 5 4 = 0) : CV V yX3_addDrive cX3_addDrive 4 rm_X3_addDrive [.ref (ad 0), .int len, .int sta] (wRing V ad R) (fun w_ => w_ = wRing V ad (rAddDrive R n len sta)) := by
  refine CV_intro (by decide) (Nat.le_of_ble_eq_true rfl) (fun K cx hci hret => ?_)
  show G V K 4 0 0 (wRing V ad R) 0 [(0, .ref (ad 0)), (1, .int len), (2, .int sta)] []
  refine g_aload_n (v := ad 0) cx dX3_addDrive_0 rfl ?_
  refine k_calli (r0 := bI (R 5 4 = 0 ∧ ¬ 6 ≤ R 5 0)) (ws' := wRing V ad R) (As := []) (rest := []) cx (c_X3_takesDrive V ad R) ml_X3_72 dX3_addDrive_1 [0, 1, 2, 3, 4, 5] rfl rfl [ad 0, ad 1, ad 2, ad 3, ad 4, ad 5] rfl rfl rfl 0 3 rfl rfl rfl rfl rfl (Nat.le_of_ble_eq_true rfl) ⟨Nat.le_of_ble_eq_true rfl, Nat.le_of_ble_eq_true rfl⟩ ⟨Nat.le_refl _, Nat.le_refl _⟩ ?_
  refine g_if_eq_b cx 56 dX3_addDrive_4 (by decide) (fun hw1 => absurd (⟨hc, rf_leMN (a := 6) rfl hn (by omega) (by omega) (by omega)⟩) hw1) (fun hw1 => ?_)
  refine g_aload_n (v := ad 0) cx dX3_addDrive_7 rfl ?_
  refine g_get (v := .int (R 5 0)) cx fk_X3_34 dX3_addDrive_8 0 rfl rfl ?_
  refine g_bipush (v := 9) cx dX3_addDrive_11 (by decide) ?_
  refine g_imul cx dX3_addDrive_13 ?_
  refine g_istore_n (lv' := [(0, .ref (ad 0)), (1, .int len), (2, .int sta), (3, .int ((R 5 0) * 9))]) cx dX3_addDrive_14 (by decide) rfl ?_
  refine g_aload_n (v := ad 0) cx dX3_addDrive_15 rfl ?_
  refine g_get (v := .ref (ad 1)) cx fk_X3_9 dX3_addDrive_16 0 rfl rfl ?_
  refine g_iload_n (v := (R 5 0) * 9) cx dX3_addDrive_19 rfl ?_
  refine g_iload_n (v := (R 5 0) * 9) cx dX3_addDrive_20 rfl ?_
  refine g_bipush (v := 9) cx dX3_addDrive_21 (by decide) ?_
  refine g_iadd cx dX3_addDrive_23 ?_
  refine g_iconst (v := 0) cx dX3_addDrive_24 (by decide) ?_
  refine k_callsv (ws' := wRing V ad (u1 R 0 (rFill (R 0) 0 (n * 9) (((n * 9) + 9) - (n * 9))))) (As := [.ref (ad 1), .int ((R 5 0) * 9), .int (((R 5 0) * 9) + 9), .int 0]) (rest := []) cx (c_J7_fill_fda19 V (ad 1) 54 (R 0) ((R 5 0) * 9) (((R 5 0) * 9) + 9) 0 (n * 9) ((n * 9) + 9) (rf_mul hn (nl 9)) (rf_add (rf_mul hn (nl 9)) (nl 9)) (by omega) (by omega) (by decide)) ml_X3_76 dX3_addDrive_25 [1] rfl rfl [ad 1] rfl rfl rfl rfl rfl (Nat.le_of_ble_eq_true rfl) ⟨Nat.le_of_ble_eq_true rfl, Nat.le_of_ble_eq_true rfl⟩ ⟨Nat.le_refl _, Nat.le_refl _⟩ ?_
  refine g_aload_n (v := ad 0) cx dX3_addDrive_28 rfl ?_
  refine g_get (v := .ref (ad 1)) cx fk_X3_9 dX3_addDrive_29 0 rfl rfl ?_
  refine g_iload_n (v := (R 5 0) * 9) cx dX3_addDrive_32 rfl ?_
  refine g_iconst (v := 0) cx dX3_addDrive_33 (by decide) ?_
  refine g_iadd cx dX3_addDrive_34 ?_
  refine g_iload_n (v := sta) cx dX3_addDrive_35 rfl ?_
  refine g_iast (ws' := wRing V ad (u2 (u1 R 0 (rFill (R 0) 0 (n * 9) (((n * 9) + 9) - (n * 9)))) 0 ((n * 9) + 0) sta)) cx dX3_addDrive_36 1 ((n * 9) + 0) rfl (rf_add (rf_mul hn (nl 9)) (nl 0)) (by omega) (by first | decide | omega) rfl ?_
  refine g_aload_n (v := ad 0) cx dX3_addDrive_37 rfl ?_
  refine g_aload_n (v := ad 0) cx dX3_addDrive_38 rfl ?_
  refine g_get (v := .int (R 5 0)) cx fk_X3_34 dX3_addDrive_39 0 rfl rfl ?_
  refine g_iload_n (v := len) cx dX3_addDrive_42 rfl ?_
  refine k_callv (ws' := wRing V ad (u2 (u2 (u2 (u1 R 0 (rFill (R 0) 0 (n * 9) (((n * 9) + 9) - (n * 9)))) 0 ((n * 9) + 0) sta) 1 (n * 2 + 0) len) 1 (n * 2 + 1) 0)) (As := [.int (R 5 0), .int len]) (rest := []) cx (c_X3_putNewLink V ad (u2 (u1 R 0 (rFill (R 0) 0 (n * 9) (((n * 9) + 9) - (n * 9)))) 0 ((n * 9) + 0) sta) (R 5 0) len n hn (by omega)) ml_X3_79 dX3_addDrive_43 [0, 1, 2, 3, 4, 5] rfl rfl [ad 0, ad 1, ad 2, ad 3, ad 4, ad 5] rfl rfl rfl 0 3 rfl rfl rfl rfl rfl (Nat.le_of_ble_eq_true rfl) ⟨Nat.le_of_ble_eq_true rfl, Nat.le_of_ble_eq_true rfl⟩ ⟨Nat.le_refl _, Nat.le_refl _⟩ ?_
  refine g_aload_n (v := ad 0) cx dX3_addDrive_46 rfl ?_
  refine g_dup cx dX3_addDrive_47 rfl ?_
  refine g_get (v := .int (R 5 0)) cx fk_X3_34 dX3_addDrive_48 0 rfl rfl ?_
  refine g_iconst (v := 1) cx dX3_addDrive_51 (by decide) ?_
  refine g_iadd cx dX3_addDrive_52 ?_
  refine g_put (ws' := wRing V ad (u2 (u2 (u2 (u2 (u1 R 0 (rFill (R 0) 0 (n * 9) (((n * 9) + 9) - (n * 9)))) 0 ((n * 9) + 0) sta) 1 (n * 2 + 0) len) 1 (n * 2 + 1) 0) 5 0 ((R 5 0) + 1))) cx fk_X3_34 dX3_addDrive_53 0 rfl (rfl) (rfl) (Nat.le_of_ble_eq_true rfl) rfl ?_
  exact hret _ _ _ dX3_addDrive_56 (rfl)
def rm_X3_closeBy : Room := { frames := 2, cells := 0, slots := 0, locals := 45 }
set_option maxRecDepth 100000 in
set_option maxHeartbeats 4000000 in
theorem c_X3_closeBy (V : VT) (ad : Nat → Nat) (R : S2) (len : Int32) (n : Nat) (hn : R 5 0 = nI n) (hn6 : n ≤ 6) (hn0 : 0 < n) (hc : R 5 4 = 0) : CV V yX3_closeBy cX3_closeBy 2 rm_X3_closeBy [.ref (ad 0), .int len] (wRing V ad R) (fun w_ => w_ = wRing V ad (rCloseBy R n len)) := by
  refine CV_intro (by decide) (Nat.le_of_ble_eq_true rfl) (fun K cx hci hret => ?_)
  show G V K 2 0 0 (wRing V ad R) 0 [(0, .ref (ad 0)), (1, .int len)] []
  refine g_aload_n (v := ad 0) cx dX3_closeBy_0 rfl ?_
  refine k_calli (r0 := bI (R 5 4 = 0 ∧ ¬ R 5 0 ≤ 0)) (ws' := wRing V ad R) (As := []) (rest := []) cx (c_X3_takesClosing V ad R) ml_X3_82 dX3_closeBy_1 [0, 1, 2, 3, 4, 5] rfl rfl [ad 0, ad 1, ad 2, ad 3, ad 4, ad 5] rfl rfl rfl 0 3 rfl rfl rfl rfl rfl (Nat.le_of_ble_eq_true rfl) ⟨Nat.le_of_ble_eq_true rfl, Nat.le_of_ble_eq_true rfl⟩ ⟨Nat.le_refl _, Nat.le_refl _⟩ ?_
  refine g_if_eq_b cx 21 dX3_closeBy_4 (by decide) (fun hw1 => absurd (⟨hc, rf_leMN hn (b := 0) rfl (by omega) (by omega) (by omega)⟩) hw1) (fun hw1 => ?_)
  refine g_aload_n (v := ad 0) cx dX3_closeBy_7 rfl ?_
  refine g_aload_n (v := ad 0) cx dX3_closeBy_8 rfl ?_
  refine g_get (v := .int (R 5 0)) cx fk_X3_34 dX3_closeBy_9 0 rfl rfl ?_
  refine g_iload_n (v := len) cx dX3_closeBy_12 rfl ?_
  refine k_callv (ws' := wRing V ad (u2 (u2 R 1 (n * 2 + 0) len) 1 (n * 2 + 1) 0)) (As := [.int (R 5 0), .int len]) (rest := []) cx (c_X3_putNewLink V ad R (R 5 0) len n hn (by omega)) ml_X3_79 dX3_closeBy_13 [0, 1, 2, 3, 4, 5] rfl rfl [ad 0, ad 1, ad 2, ad 3, ad 4, ad 5] rfl rfl rfl 0 3 rfl rfl rfl rfl rfl (Nat.le_of_ble_eq_true rfl) ⟨Nat.le_of_ble_eq_true rfl, Nat.le_of_ble_eq_true rfl⟩ ⟨Nat.le_refl _, Nat.le_refl _⟩ ?_
  refine g_aload_n (v := ad 0) cx dX3_closeBy_16 rfl ?_
  refine g_iconst (v := 1) cx dX3_closeBy_17 (by decide) ?_
  refine g_put (ws' := wRing V ad (u2 (u2 (u2 R 1 (n * 2 + 0) len) 1 (n * 2 + 1) 0) 5 4 1)) cx fk_X3_38 dX3_closeBy_18 0 rfl (rfl) (rfl) (Nat.le_of_ble_eq_true rfl) rfl ?_
  exact hret _ _ _ dX3_closeBy_21 (rfl)
def rm_X3_addOrder : Room := { frames := 1, cells := 0, slots := 0, locals := 20 }
set_option maxRecDepth 100000 in
set_option maxHeartbeats 4000000 in
theorem c_X3_addOrder (V : VT) (ad : Nat → Nat) (R : S2) (x1 x2 x3 x4 x5 : Int32) (o : Nat) (ho : R 5 1 = nI o) (ho4 : o < 4) : CV V yX3_addOrder cX3_addOrder 7 rm_X3_addOrder [.ref (ad 0), .int x1, .int x2, .int x3, .int x4, .int x5] (wRing V ad R) (fun w_ => w_ = wRing V ad (rAddOrder R o x1 x2 x3 x4 x5)) := by
  refine CV_intro (by decide) (Nat.le_of_ble_eq_true rfl) (fun K cx hci hret => ?_)
  show G V K 7 0 0 (wRing V ad R) 0 [(0, .ref (ad 0)), (1, .int x1), (2, .int x2), (3, .int x3), (4, .int x4), (5, .int x5)] []
  refine g_aload_n (v := ad 0) cx dX3_addOrder_0 rfl ?_
  refine k_calli (r0 := bI (¬ 4 ≤ R 5 1)) (ws' := wRing V ad R) (As := []) (rest := []) cx (c_X3_takesOrder V ad R) ml_X3_89 dX3_addOrder_1 [0, 1, 2, 3, 4, 5] rfl rfl [ad 0, ad 1, ad 2, ad 3, ad 4, ad 5] rfl rfl rfl 0 3 rfl rfl rfl rfl rfl (Nat.le_of_ble_eq_true rfl) ⟨Nat.le_of_ble_eq_true rfl, Nat.le_of_ble_eq_true rfl⟩ ⟨Nat.le_refl _, Nat.le_refl _⟩ ?_
  refine g_if_eq_b cx 77 dX3_addOrder_4 (by decide) (fun hw1 => absurd (rf_leMN (a := 4) rfl ho (by omega) (by omega) (by omega)) hw1) (fun hw1 => ?_)
  refine g_aload_n (v := ad 0) cx dX3_addOrder_7 rfl ?_
  refine g_get (v := .int (R 5 1)) cx fk_X3_54 dX3_addOrder_8 0 rfl rfl ?_
  refine g_iconst (v := 5) cx dX3_addOrder_11 (by decide) ?_
  refine g_imul cx dX3_addOrder_12 ?_
  refine g_istore (lv' := [(0, .ref (ad 0)), (1, .int x1), (2, .int x2), (3, .int x3), (4, .int x4), (5, .int x5), (6, .int ((R 5 1) * 5))]) cx dX3_addOrder_13 (by decide) rfl ?_
  refine g_aload_n (v := ad 0) cx dX3_addOrder_15 rfl ?_
  refine g_get (v := .ref (ad 3)) cx fk_X3_18 dX3_addOrder_16 0 rfl rfl ?_
  refine g_iload (v := (R 5 1) * 5) cx dX3_addOrder_19 rfl ?_
  refine g_iconst (v := 0) cx dX3_addOrder_21 (by decide) ?_
  refine g_iadd cx dX3_addOrder_22 ?_
  refine g_iload_n (v := x1) cx dX3_addOrder_23 rfl ?_
  refine g_iast (ws' := wRing V ad (u2 R 2 ((o * 5) + 0) x1)) cx dX3_addOrder_24 3 ((o * 5) + 0) rfl (rf_add (rf_mul ho (nl 5)) (nl 0)) (by omega) (by first | decide | omega) rfl ?_
  refine g_aload_n (v := ad 0) cx dX3_addOrder_25 rfl ?_
  refine g_get (v := .ref (ad 3)) cx fk_X3_18 dX3_addOrder_26 0 rfl rfl ?_
  refine g_iload (v := (R 5 1) * 5) cx dX3_addOrder_29 rfl ?_
  refine g_iconst (v := 1) cx dX3_addOrder_31 (by decide) ?_
  refine g_iadd cx dX3_addOrder_32 ?_
  refine g_iload_n (v := x2) cx dX3_addOrder_33 rfl ?_
  refine g_iast (ws' := wRing V ad (u2 (u2 R 2 ((o * 5) + 0) x1) 2 ((o * 5) + 1) x2)) cx dX3_addOrder_34 3 ((o * 5) + 1) rfl (rf_add (rf_mul ho (nl 5)) (nl 1)) (by omega) (by first | decide | omega) rfl ?_
  refine g_aload_n (v := ad 0) cx dX3_addOrder_35 rfl ?_
  refine g_get (v := .ref (ad 3)) cx fk_X3_18 dX3_addOrder_36 0 rfl rfl ?_
  refine g_iload (v := (R 5 1) * 5) cx dX3_addOrder_39 rfl ?_
  refine g_iconst (v := 2) cx dX3_addOrder_41 (by decide) ?_
  refine g_iadd cx dX3_addOrder_42 ?_
  refine g_iload_n (v := x3) cx dX3_addOrder_43 rfl ?_
  refine g_iast (ws' := wRing V ad (u2 (u2 (u2 R 2 ((o * 5) + 0) x1) 2 ((o * 5) + 1) x2) 2 ((o * 5) + 2) x3)) cx dX3_addOrder_44 3 ((o * 5) + 2) rfl (rf_add (rf_mul ho (nl 5)) (nl 2)) (by omega) (by first | decide | omega) rfl ?_
  refine g_aload_n (v := ad 0) cx dX3_addOrder_45 rfl ?_
  refine g_get (v := .ref (ad 3)) cx fk_X3_18 dX3_addOrder_46 0 rfl rfl ?_
  refine g_iload (v := (R 5 1) * 5) cx dX3_addOrder_49 rfl ?_
  refine g_iconst (v := 3) cx dX3_addOrder_51 (by decide) ?_
  refine g_iadd cx dX3_addOrder_52 ?_
  refine g_iload (v := x4) cx dX3_addOrder_53 rfl ?_
  refine g_iast (ws' := wRing V ad (u2 (u2 (u2 (u2 R 2 ((o * 5) + 0) x1) 2 ((o * 5) + 1) x2) 2 ((o * 5) + 2) x3) 2 ((o * 5) + 3) x4)) cx dX3_addOrder_55 3 ((o * 5) + 3) rfl (rf_add (rf_mul ho (nl 5)) (nl 3)) (by omega) (by first | decide | omega) rfl ?_
  refine g_aload_n (v := ad 0) cx dX3_addOrder_56 rfl ?_
  refine g_get (v := .ref (ad 3)) cx fk_X3_18 dX3_addOrder_57 0 rfl rfl ?_
  refine g_iload (v := (R 5 1) * 5) cx dX3_addOrder_60 rfl ?_
  refine g_iconst (v := 4) cx dX3_addOrder_62 (by decide) ?_
  refine g_iadd cx dX3_addOrder_63 ?_
  refine g_iload (v := x5) cx dX3_addOrder_64 rfl ?_
  refine g_iast (ws' := wRing V ad (u2 (u2 (u2 (u2 (u2 R 2 ((o * 5) + 0) x1) 2 ((o * 5) + 1) x2) 2 ((o * 5) + 2) x3) 2 ((o * 5) + 3) x4) 2 ((o * 5) + 4) x5)) cx dX3_addOrder_66 3 ((o * 5) + 4) rfl (rf_add (rf_mul ho (nl 5)) (nl 4)) (by omega) (by first | decide | omega) rfl ?_
  refine g_aload_n (v := ad 0) cx dX3_addOrder_67 rfl ?_
  refine g_dup cx dX3_addOrder_68 rfl ?_
  refine g_get (v := .int (R 5 1)) cx fk_X3_54 dX3_addOrder_69 0 rfl rfl ?_
  refine g_iconst (v := 1) cx dX3_addOrder_72 (by decide) ?_
  refine g_iadd cx dX3_addOrder_73 ?_
  refine g_put (ws' := wRing V ad (u2 (u2 (u2 (u2 (u2 (u2 R 2 ((o * 5) + 0) x1) 2 ((o * 5) + 1) x2) 2 ((o * 5) + 2) x3) 2 ((o * 5) + 3) x4) 2 ((o * 5) + 4) x5) 5 1 ((R 5 1) + 1))) cx fk_X3_54 dX3_addOrder_74 0 rfl (rfl) (rfl) (Nat.le_of_ble_eq_true rfl) rfl ?_
  exact hret _ _ _ dX3_addOrder_77 (rfl)
def rm_X3_putResult : Room := { frames := 0, cells := 0, slots := 0, locals := 0 }
set_option maxRecDepth 100000 in
set_option maxHeartbeats 4000000 in
theorem c_X3_putResult (V : VT) (ad : Nat → Nat) (R : S2) (x c v : Int32) (k : Nat) (hx : x = nI k) (hk : k < 4) : CV V yX3_putResult cX3_putResult 4 rm_X3_putResult [.ref (ad 0), .int x, .int c, .int v] (wRing V ad R) (fun w_ => w_ = wRing V ad (u2 (u2 R 3 (k * 2 + 0) c) 3 (k * 2 + 1) v)) := by
  refine CV_intro (by decide) (Nat.le_of_ble_eq_true rfl) (fun K cx hci hret => ?_)
  show G V K 4 0 0 (wRing V ad R) 0 [(0, .ref (ad 0)), (1, .int x), (2, .int c), (3, .int v)] []
  refine g_aload_n (v := ad 0) cx dX3_putResult_0 rfl ?_
  refine g_get (v := .ref (ad 4)) cx fk_X3_21 dX3_putResult_1 0 rfl rfl ?_
  refine g_iload_n (v := x) cx dX3_putResult_4 rfl ?_
  refine g_iconst (v := 2) cx dX3_putResult_5 (by decide) ?_
  refine g_imul cx dX3_putResult_6 ?_
  refine g_iconst (v := 0) cx dX3_putResult_7 (by decide) ?_
  refine g_iadd cx dX3_putResult_8 ?_
  refine g_iload_n (v := c) cx dX3_putResult_9 rfl ?_
  refine g_iast (ws' := wRing V ad (u2 R 3 ((k * 2) + 0) c)) cx dX3_putResult_10 4 ((k * 2) + 0) rfl (rf_add (rf_mul hx (nl 2)) (nl 0)) (by omega) (by first | decide | omega) rfl ?_
  refine g_aload_n (v := ad 0) cx dX3_putResult_11 rfl ?_
  refine g_get (v := .ref (ad 4)) cx fk_X3_21 dX3_putResult_12 0 rfl rfl ?_
  refine g_iload_n (v := x) cx dX3_putResult_15 rfl ?_
  refine g_iconst (v := 2) cx dX3_putResult_16 (by decide) ?_
  refine g_imul cx dX3_putResult_17 ?_
  refine g_iconst (v := 1) cx dX3_putResult_18 (by decide) ?_
  refine g_iadd cx dX3_putResult_19 ?_
  refine g_iload_n (v := v) cx dX3_putResult_20 rfl ?_
  refine g_iast (ws' := wRing V ad (u2 (u2 R 3 ((k * 2) + 0) c) 3 ((k * 2) + 1) v)) cx dX3_putResult_21 4 ((k * 2) + 1) rfl (rf_add (rf_mul hx (nl 2)) (nl 1)) (by omega) (by first | decide | omega) rfl ?_
  exact hret _ _ _ dX3_putResult_22 (rfl)
def rm_X3_safeDrives : Room := { frames := 1, cells := 0, slots := 0, locals := 22 }
set_option maxRecDepth 100000 in
set_option maxHeartbeats 4000000 in
theorem c_X3_safeDrives (V : VT) (ad : Nat → Nat) (R : S2) (n : Nat) (hn : R 5 0 = nI n) (hn6 : n ≤ 6) : CI V yX3_safeDrives cX3_safeDrives 3 .int rm_X3_safeDrives [.ref (ad 0)] (wRing V ad R) (fun r_ w_ => r_ = rSafe R n ∧ w_ = wRing V ad R) := by
  refine CI_intro (by decide) (Nat.le_of_ble_eq_true rfl) (fun K cx hret => ?_)
  show G V K 3 0 0 (wRing V ad R) 0 [(0, .ref (ad 0))] []
  refine g_iconst (v := 0) cx dX3_safeDrives_0 (by decide) ?_
  refine g_istore_n (lv' := [(0, .ref (ad 0)), (1, .int 0)]) cx dX3_safeDrives_1 (by decide) rfl ?_
  refine g_iconst (v := 0) cx dX3_safeDrives_2 (by decide) ?_
  refine g_istore_n (lv' := [(0, .ref (ad 0)), (1, .int 0), (2, .int 0)]) cx dX3_safeDrives_3 (by decide) rfl ?_
  refine rf_dn (P := fun i1 => G V K 3 0 0 (wRing V ad R) 4 [(0, .ref (ad 0)), (1, .int (rSafe R i1)), (2, .int (nI i1))] []) (n) (fun i1 hi1 ihi1 => ?_) ?_
  · skip
    refine g_iload_n (v := nI i1) cx dX3_safeDrives_4 rfl ?_
    refine g_aload_n (v := ad 0) cx dX3_safeDrives_5 rfl ?_
    refine g_get (v := .int (R 5 0)) cx fk_X3_34 dX3_safeDrives_6 0 rfl rfl ?_
    refine g_icmp_ge cx 28 dX3_safeDrives_9 (by decide) (fun hw1 => absurd hw1 (rf_geMN rfl hn (by omega) (by omega) (by omega))) (fun hw1 => ?_)
    refine g_iload_n (v := rSafe R i1) cx dX3_safeDrives_12 rfl ?_
    refine g_aload_n (v := ad 0) cx dX3_safeDrives_13 rfl ?_
    refine g_iload_n (v := nI i1) cx dX3_safeDrives_14 rfl ?_
    refine g_bipush (v := 6) cx dX3_safeDrives_15 (by decide) ?_
    refine k_calli (r0 := R 0 (i1 * 9 + 6)) (ws' := wRing V ad R) (As := [.int (nI i1), .int 6]) (rest := [.int (rSafe R i1)]) cx (c_X3_ofDrive V ad R (nI i1) 6 (i1 * 9 + 6) (rf_add (rf_mul rfl rfl) (nl 6)) (by omega)) ml_X3_96 dX3_safeDrives_17 [0, 1, 2, 3, 4, 5] rfl rfl [ad 0, ad 1, ad 2, ad 3, ad 4, ad 5] rfl rfl rfl 0 3 rfl rfl rfl rfl rfl (Nat.le_of_ble_eq_true rfl) ⟨Nat.le_of_ble_eq_true rfl, Nat.le_of_ble_eq_true rfl⟩ ⟨Nat.le_refl _, Nat.le_refl _⟩ ?_
    refine g_iadd cx dX3_safeDrives_20 ?_
    refine g_istore_n (lv' := [(0, .ref (ad 0)), (1, .int ((rSafe R i1) + (R 0 (i1 * 9 + 6)))), (2, .int (nI i1))]) cx dX3_safeDrives_21 (by decide) rfl ?_
    refine g_iinc (x := nI i1) (v := nI (i1 + 1)) (lv' := [(0, .ref (ad 0)), (1, .int ((rSafe R i1) + (R 0 (i1 * 9 + 6)))), (2, .int (nI (i1 + 1)))]) cx dX3_safeDrives_22 rfl (by decide) (nI_add _ _) rfl ?_
    refine g_goto cx 4 dX3_safeDrives_25 (by decide) ?_
    exact ihi1
  · skip
    refine g_iload_n (v := nI n) cx dX3_safeDrives_4 rfl ?_
    refine g_aload_n (v := ad 0) cx dX3_safeDrives_5 rfl ?_
    refine g_get (v := .int (R 5 0)) cx fk_X3_34 dX3_safeDrives_6 0 rfl rfl ?_
    refine g_icmp_ge cx 28 dX3_safeDrives_9 (by decide) (fun hw2 => ?_) (fun hw2 => absurd (rf_geMP rfl hn (by omega) (by omega) (by omega)) hw2)
    refine g_iload_n (v := rSafe R n) cx dX3_safeDrives_28 rfl ?_
    exact hret _ _ _ _ dX3_safeDrives_29 (rfl) ⟨rfl, rfl⟩
def rm_X3_cutLinks : Room := { frames := 1, cells := 0, slots := 0, locals := 22 }
set_option maxRecDepth 100000 in
set_option maxHeartbeats 4000000 in
theorem c_X3_cutLinks (V : VT) (ad : Nat → Nat) (R : S2) (m : Nat) (hm : rLinks R = nI m) (hm7 : m ≤ 7) : CI V yX3_cutLinks cX3_cutLinks 3 .int rm_X3_cutLinks [.ref (ad 0)] (wRing V ad R) (fun r_ w_ => r_ = rCuts R m ∧ w_ = wRing V ad R) := by
  refine CI_intro (by decide) (Nat.le_of_ble_eq_true rfl) (fun K cx hret => ?_)
  show G V K 3 0 0 (wRing V ad R) 0 [(0, .ref (ad 0))] []
  refine g_iconst (v := 0) cx dX3_cutLinks_0 (by decide) ?_
  refine g_istore_n (lv' := [(0, .ref (ad 0)), (1, .int 0)]) cx dX3_cutLinks_1 (by decide) rfl ?_
  refine g_iconst (v := 0) cx dX3_cutLinks_2 (by decide) ?_
  refine g_istore_n (lv' := [(0, .ref (ad 0)), (1, .int 0), (2, .int 0)]) cx dX3_cutLinks_3 (by decide) rfl ?_
  refine rf_dn (P := fun i1 => G V K 3 0 0 (wRing V ad R) 4 [(0, .ref (ad 0)), (1, .int (rCuts R i1)), (2, .int (nI i1))] []) (m) (fun i1 hi1 ihi1 => ?_) ?_
  · skip
    refine g_iload_n (v := nI i1) cx dX3_cutLinks_4 rfl ?_
    refine g_aload_n (v := ad 0) cx dX3_cutLinks_5 rfl ?_
    refine k_calli (r0 := rLinks R) (ws' := wRing V ad R) (As := []) (rest := [.int (nI i1)]) cx (c_X3_links V ad R) ml_X3_92 dX3_cutLinks_6 [0, 1, 2, 3, 4, 5] rfl rfl [ad 0, ad 1, ad 2, ad 3, ad 4, ad 5] rfl rfl rfl 0 3 rfl rfl rfl rfl rfl (Nat.le_of_ble_eq_true rfl) ⟨Nat.le_of_ble_eq_true rfl, Nat.le_of_ble_eq_true rfl⟩ ⟨Nat.le_refl _, Nat.le_refl _⟩ ?_
    refine g_icmp_ge cx 27 dX3_cutLinks_9 (by decide) (fun hw1 => absurd hw1 (rf_geMN rfl hm (by omega) (by omega) (by omega))) (fun hw1 => ?_)
    refine g_iload_n (v := rCuts R i1) cx dX3_cutLinks_12 rfl ?_
    refine g_aload_n (v := ad 0) cx dX3_cutLinks_13 rfl ?_
    refine g_iload_n (v := nI i1) cx dX3_cutLinks_14 rfl ?_
    refine g_iconst (v := 1) cx dX3_cutLinks_15 (by decide) ?_
    refine k_calli (r0 := R 1 (i1 * 2 + 1)) (ws' := wRing V ad R) (As := [.int (nI i1), .int 1]) (rest := [.int (rCuts R i1)]) cx (c_X3_ofLink V ad R (nI i1) 1 (i1 * 2 + 1) (rf_add (rf_mul rfl rfl) (nl 1)) (by omega)) ml_X3_100 dX3_cutLinks_16 [0, 1, 2, 3, 4, 5] rfl rfl [ad 0, ad 1, ad 2, ad 3, ad 4, ad 5] rfl rfl rfl 0 3 rfl rfl rfl rfl rfl (Nat.le_of_ble_eq_true rfl) ⟨Nat.le_of_ble_eq_true rfl, Nat.le_of_ble_eq_true rfl⟩ ⟨Nat.le_refl _, Nat.le_refl _⟩ ?_
    refine g_iadd cx dX3_cutLinks_19 ?_
    refine g_istore_n (lv' := [(0, .ref (ad 0)), (1, .int ((rCuts R i1) + (R 1 (i1 * 2 + 1)))), (2, .int (nI i1))]) cx dX3_cutLinks_20 (by decide) rfl ?_
    refine g_iinc (x := nI i1) (v := nI (i1 + 1)) (lv' := [(0, .ref (ad 0)), (1, .int ((rCuts R i1) + (R 1 (i1 * 2 + 1)))), (2, .int (nI (i1 + 1)))]) cx dX3_cutLinks_21 rfl (by decide) (nI_add _ _) rfl ?_
    refine g_goto cx 4 dX3_cutLinks_24 (by decide) ?_
    exact ihi1
  · skip
    refine g_iload_n (v := nI m) cx dX3_cutLinks_4 rfl ?_
    refine g_aload_n (v := ad 0) cx dX3_cutLinks_5 rfl ?_
    refine k_calli (r0 := rLinks R) (ws' := wRing V ad R) (As := []) (rest := [.int (nI m)]) cx (c_X3_links V ad R) ml_X3_92 dX3_cutLinks_6 [0, 1, 2, 3, 4, 5] rfl rfl [ad 0, ad 1, ad 2, ad 3, ad 4, ad 5] rfl rfl rfl 0 3 rfl rfl rfl rfl rfl (Nat.le_of_ble_eq_true rfl) ⟨Nat.le_of_ble_eq_true rfl, Nat.le_of_ble_eq_true rfl⟩ ⟨Nat.le_refl _, Nat.le_refl _⟩ ?_
    refine g_icmp_ge cx 27 dX3_cutLinks_9 (by decide) (fun hw2 => ?_) (fun hw2 => absurd (rf_geMP rfl hm (by omega) (by omega) (by omega)) hw2)
    refine g_iload_n (v := rCuts R m) cx dX3_cutLinks_27 rfl ?_
    exact hret _ _ _ _ dX3_cutLinks_28 (rfl) ⟨rfl, rfl⟩
def rm_X3_isWhole : Room := { frames := 2, cells := 0, slots := 0, locals := 44 }
set_option maxRecDepth 100000 in
set_option maxHeartbeats 4000000 in
theorem c_X3_isWhole (V : VT) (ad : Nat → Nat) (R : S2) (m : Nat) (hm : rLinks R = nI m) (hm7 : m ≤ 7) : CI V yX3_isWhole cX3_isWhole 1 .boolean rm_X3_isWhole [.ref (ad 0)] (wRing V ad R) (fun r_ w_ => r_ = bI (¬ R 5 4 = 0 ∧ rCuts R m = 0) ∧ w_ = wRing V ad R) := by
  refine CI_intro (by decide) (Nat.le_of_ble_eq_true rfl) (fun K cx hret => ?_)
  show G V K 1 0 0 (wRing V ad R) 0 [(0, .ref (ad 0))] []
  refine g_aload_n (v := ad 0) cx dX3_isWhole_0 rfl ?_
  refine g_get (v := .int (R 5 4)) cx fk_X3_38 dX3_isWhole_1 0 rfl rfl ?_
  refine g_if_eq cx 18 dX3_isWhole_4 (by decide) (fun hw1 => ?_) (fun hw1 => ?_)
  · skip
    refine g_iconst (v := 0) cx dX3_isWhole_18 (by decide) ?_
    exact hret _ _ _ _ dX3_isWhole_19 (by first | rfl | exact rf_bnar) (⟨by simp only [bI, hw1, not_true_eq_false, not_false_eq_true, and_true, true_and, and_false, false_and, or_true, true_or, or_false, false_or, if_true, if_false], rfl⟩)
  · skip
    refine g_aload_n (v := ad 0) cx dX3_isWhole_7 rfl ?_
    refine k_calli (r0 := rCuts R m) (ws' := wRing V ad R) (As := []) (rest := []) cx (c_X3_cutLinks V ad R m hm (by omega)) ml_X3_103 dX3_isWhole_8 [0, 1, 2, 3, 4, 5] rfl rfl [ad 0, ad 1, ad 2, ad 3, ad 4, ad 5] rfl rfl rfl 0 3 rfl rfl rfl rfl rfl (Nat.le_of_ble_eq_true rfl) ⟨Nat.le_of_ble_eq_true rfl, Nat.le_of_ble_eq_true rfl⟩ ⟨Nat.le_refl _, Nat.le_refl _⟩ ?_
    refine g_if_ne cx 18 dX3_isWhole_11 (by decide) (fun hw2 => ?_) (fun hw2 => ?_)
    · skip
      refine g_iconst (v := 0) cx dX3_isWhole_18 (by decide) ?_
      exact hret _ _ _ _ dX3_isWhole_19 (by first | rfl | exact rf_bnar) (⟨by simp only [bI, hw1, hw2, not_true_eq_false, not_false_eq_true, and_true, true_and, and_false, false_and, or_true, true_or, or_false, false_or, if_true, if_false], rfl⟩)
    · skip
      refine g_iconst (v := 1) cx dX3_isWhole_14 (by decide) ?_
      refine g_goto cx 19 dX3_isWhole_15 (by decide) ?_
      exact hret _ _ _ _ dX3_isWhole_19 (by first | rfl | exact rf_bnar) (⟨by simp only [bI, hw1, hw2, not_true_eq_false, not_false_eq_true, and_true, true_and, and_false, false_and, or_true, true_or, or_false, false_or, if_true, if_false], rfl⟩)
def rm_X3_endOfA : Room := { frames := 1, cells := 0, slots := 0, locals := 21 }
set_option maxRecDepth 100000 in
set_option maxHeartbeats 4000000 in
theorem c_X3_endOfA (V : VT) (ad : Nat → Nat) (R : S2) (n : Nat) (hn : R 5 0 = nI n) (hn6 : n ≤ 6) : CI V yX3_endOfA cX3_endOfA 2 .int rm_X3_endOfA [.ref (ad 0)] (wRing V ad R) (fun r_ w_ => r_ = nI (eA R n) ∧ w_ = wRing V ad R) := by
  refine CI_intro (by decide) (Nat.le_of_ble_eq_true rfl) (fun K cx hret => ?_)
  show G V K 2 0 0 (wRing V ad R) 0 [(0, .ref (ad 0))] []
  refine g_iconst (v := 0) cx dX3_endOfA_0 (by decide) ?_
  refine g_istore_n (lv' := [(0, .ref (ad 0)), (1, .int 0)]) cx dX3_endOfA_1 (by decide) rfl ?_
  refine rf_dn (P := fun i1 => G V K 2 0 0 (wRing V ad R) 2 [(0, .ref (ad 0)), (1, .int (nI i1))] []) (eA R n) (fun i1 hi1 ihi1 => ?_) ?_
  · skip
    have hle := ff_le (rCut R) n
    have hle : eA R n ≤ n := hle
    have hno : ¬ R 1 (i1 * 2 + 1) = 1 := of_decide_eq_false (ff_no (rCut R) n i1 hi1)
    refine g_iload_n (v := nI i1) cx dX3_endOfA_2 rfl ?_
    refine g_aload_n (v := ad 0) cx dX3_endOfA_3 rfl ?_
    refine g_get (v := .int (R 5 0)) cx fk_X3_34 dX3_endOfA_4 0 rfl rfl ?_
    refine g_icmp_ge cx 26 dX3_endOfA_7 (by decide) (fun hw1 => absurd hw1 (rf_geMN rfl hn (by omega) (by omega) (by omega))) (fun hw1 => ?_)
    refine g_aload_n (v := ad 0) cx dX3_endOfA_10 rfl ?_
    refine g_iload_n (v := nI i1) cx dX3_endOfA_11 rfl ?_
    refine k_calli (r0 := bI (R 1 (i1 * 2 + 1) = 1)) (ws' := wRing V ad R) (As := [.int (nI i1)]) (rest := []) cx (c_X3_isCut V ad R (nI i1) (i1 * 2 + 1) (rf_add (rf_mul rfl rfl) rfl) (by omega)) ml_X3_106 dX3_endOfA_12 [0, 1, 2, 3, 4, 5] rfl rfl [ad 0, ad 1, ad 2, ad 3, ad 4, ad 5] rfl rfl rfl 0 3 rfl rfl rfl rfl rfl (Nat.le_of_ble_eq_true rfl) ⟨Nat.le_of_ble_eq_true rfl, Nat.le_of_ble_eq_true rfl⟩ ⟨Nat.le_refl _, Nat.le_refl _⟩ ?_
    refine g_if_eq_b cx 20 dX3_endOfA_15 (by decide) (fun hw2 => ?_) (fun hw2 => absurd hw2 (hno))
    refine g_iinc (x := nI i1) (v := nI (i1 + 1)) (lv' := [(0, .ref (ad 0)), (1, .int (nI (i1 + 1)))]) cx dX3_endOfA_20 rfl (by decide) (nI_add _ _) rfl ?_
    refine g_goto cx 2 dX3_endOfA_23 (by decide) ?_
    exact ihi1
  · skip
    have hle : eA R n ≤ n := ff_le (rCut R) n
    rcases Nat.lt_or_ge (eA R n) n with he | he
    · have hy : R 1 (eA R n * 2 + 1) = 1 := of_decide_eq_true (ff_yes (rCut R) n he)
      refine g_iload_n (v := nI (eA R n)) cx dX3_endOfA_2 rfl ?_
      refine g_aload_n (v := ad 0) cx dX3_endOfA_3 rfl ?_
      refine g_get (v := .int (R 5 0)) cx fk_X3_34 dX3_endOfA_4 0 rfl rfl ?_
      refine g_icmp_ge cx 26 dX3_endOfA_7 (by decide) (fun hw3 => absurd hw3 (rf_geMN rfl hn (by omega) (by omega) (by omega))) (fun hw3 => ?_)
      refine g_aload_n (v := ad 0) cx dX3_endOfA_10 rfl ?_
      refine g_iload_n (v := nI (eA R n)) cx dX3_endOfA_11 rfl ?_
      refine k_calli (r0 := bI (R 1 ((eA R n) * 2 + 1) = 1)) (ws' := wRing V ad R) (As := [.int (nI (eA R n))]) (rest := []) cx (c_X3_isCut V ad R (nI (eA R n)) ((eA R n) * 2 + 1) (rf_add (rf_mul rfl rfl) rfl) (by omega)) ml_X3_106 dX3_endOfA_12 [0, 1, 2, 3, 4, 5] rfl rfl [ad 0, ad 1, ad 2, ad 3, ad 4, ad 5] rfl rfl rfl 0 3 rfl rfl rfl rfl rfl (Nat.le_of_ble_eq_true rfl) ⟨Nat.le_of_ble_eq_true rfl, Nat.le_of_ble_eq_true rfl⟩ ⟨Nat.le_refl _, Nat.le_refl _⟩ ?_
      refine g_if_eq_b cx 20 dX3_endOfA_15 (by decide) (fun hw4 => absurd (hy) hw4) (fun hw4 => ?_)
      refine g_iload_n (v := nI (eA R n)) cx dX3_endOfA_18 rfl ?_
      exact hret _ _ _ _ dX3_endOfA_19 (rfl) ⟨rfl, rfl⟩
    · have he2 : eA R n = n := Nat.le_antisymm (ff_le _ n) he
      refine g_iload_n (v := nI (eA R n)) cx dX3_endOfA_2 rfl ?_
      refine g_aload_n (v := ad 0) cx dX3_endOfA_3 rfl ?_
      refine g_get (v := .int (R 5 0)) cx fk_X3_34 dX3_endOfA_4 0 rfl rfl ?_
      refine g_icmp_ge cx 26 dX3_endOfA_7 (by decide) (fun hw5 => ?_) (fun hw5 => absurd (rf_geMP rfl hn (by omega) (by omega) (by omega)) hw5)
      refine g_aload_n (v := ad 0) cx dX3_endOfA_26 rfl ?_
      refine g_get (v := .int (R 5 0)) cx fk_X3_34 dX3_endOfA_27 0 rfl rfl ?_
      exact hret _ _ _ _ dX3_endOfA_30 (rfl) (⟨by rw [hn, he2], rfl⟩)
def rm_X3_startOfB : Room := { frames := 1, cells := 0, slots := 0, locals := 21 }
set_option maxRecDepth 100000 in
set_option maxHeartbeats 4000000 in
theorem c_X3_startOfB (V : VT) (ad : Nat → Nat) (R : S2) (n : Nat) (hn : R 5 0 = nI n) (hn6 : n ≤ 6) : CI V yX3_startOfB cX3_startOfB 2 .int rm_X3_startOfB [.ref (ad 0)] (wRing V ad R) (fun r_ w_ => r_ = nI (sB R n) ∧ w_ = wRing V ad R) := by
  refine CI_intro (by decide) (Nat.le_of_ble_eq_true rfl) (fun K cx hret => ?_)
  show G V K 2 0 0 (wRing V ad R) 0 [(0, .ref (ad 0))] []
  refine g_aload_n (v := ad 0) cx dX3_startOfB_0 rfl ?_
  refine g_get (v := .int (R 5 4)) cx fk_X3_38 dX3_startOfB_1 0 rfl rfl ?_
  refine g_if_ne cx 12 dX3_startOfB_4 (by decide) (fun hw1 => ?_) (fun hw1 => ?_)
  · skip
    refine g_aload_n (v := ad 0) cx dX3_startOfB_12 rfl ?_
    refine g_get (v := .int (R 5 0)) cx fk_X3_34 dX3_startOfB_13 0 rfl rfl ?_
    refine g_top (y := nI n - nI 0) (by rw [hn]; exact (rf_sub (a := n) (b := 0) rfl rfl (Nat.zero_le _)).symm) ?_
    refine g_istore_n (lv' := [(0, .ref (ad 0)), (1, .int (nI n - nI 0))]) cx dX3_startOfB_16 (by decide) rfl ?_
    refine rf_dn (P := fun i1 => G V K 2 0 0 (wRing V ad R) 17 [(0, .ref (ad 0)), (1, .int (nI n - nI i1))] []) (sJ R n) (fun i1 hi1 ihi1 => ?_) ?_
    · skip
      have hle : sJ R n ≤ n + 1 := ff_le _ (n + 1)
      have hno : ¬ R 1 ((n - i1) * 2 + 1) = 1 := of_decide_eq_false (ff_no (fun j => rCut R (n - j)) (n + 1) i1 hi1)
      refine g_iload_n (v := nI n - nI i1) cx dX3_startOfB_17 rfl ?_
      refine g_if_lt cx 37 dX3_startOfB_18 (by decide) (fun hw2 => absurd hw2 (rf_ltMN (rf_sub rfl rfl (by omega)) (nl 0) (by omega) (by omega) (by omega))) (fun hw2 => ?_)
      refine g_aload_n (v := ad 0) cx dX3_startOfB_21 rfl ?_
      refine g_iload_n (v := nI n - nI i1) cx dX3_startOfB_22 rfl ?_
      refine k_calli (r0 := bI (R 1 ((n - i1) * 2 + 1) = 1)) (ws' := wRing V ad R) (As := [.int (nI n - nI i1)]) (rest := []) cx (c_X3_isCut V ad R (nI n - nI i1) ((n - i1) * 2 + 1) (rf_add (rf_mul (rf_sub rfl rfl (by omega)) rfl) rfl) (by omega)) ml_X3_106 dX3_startOfB_23 [0, 1, 2, 3, 4, 5] rfl rfl [ad 0, ad 1, ad 2, ad 3, ad 4, ad 5] rfl rfl rfl 0 3 rfl rfl rfl rfl rfl (Nat.le_of_ble_eq_true rfl) ⟨Nat.le_of_ble_eq_true rfl, Nat.le_of_ble_eq_true rfl⟩ ⟨Nat.le_refl _, Nat.le_refl _⟩ ?_
      refine g_if_eq_b cx 31 dX3_startOfB_26 (by decide) (fun hw3 => ?_) (fun hw3 => absurd hw3 (hno))
      refine g_iinc (x := nI n - nI i1) (v := nI n - nI (i1 + 1)) (lv' := [(0, .ref (ad 0)), (1, .int (nI n - nI (i1 + 1)))]) cx dX3_startOfB_31 rfl (by decide) (rf_dec _ _) rfl ?_
      refine g_goto cx 17 dX3_startOfB_34 (by decide) ?_
      exact ihi1
    · skip
      have hle : sJ R n ≤ n + 1 := ff_le _ (n + 1)
      rcases Nat.lt_or_ge (sJ R n) (n + 1) with he | he
      · have hy : R 1 ((n - sJ R n) * 2 + 1) = 1 := of_decide_eq_true (ff_yes (fun j => rCut R (n - j)) (n + 1) he)
        refine g_iload_n (v := nI n - nI (sJ R n)) cx dX3_startOfB_17 rfl ?_
        refine g_if_lt cx 37 dX3_startOfB_18 (by decide) (fun hw4 => absurd hw4 (rf_ltMN (rf_sub rfl rfl (by omega)) (nl 0) (by omega) (by omega) (by omega))) (fun hw4 => ?_)
        refine g_aload_n (v := ad 0) cx dX3_startOfB_21 rfl ?_
        refine g_iload_n (v := nI n - nI (sJ R n)) cx dX3_startOfB_22 rfl ?_
        refine k_calli (r0 := bI (R 1 ((n - sJ R n) * 2 + 1) = 1)) (ws' := wRing V ad R) (As := [.int (nI n - nI (sJ R n))]) (rest := []) cx (c_X3_isCut V ad R (nI n - nI (sJ R n)) ((n - sJ R n) * 2 + 1) (rf_add (rf_mul (rf_sub rfl rfl (by omega)) rfl) rfl) (by omega)) ml_X3_106 dX3_startOfB_23 [0, 1, 2, 3, 4, 5] rfl rfl [ad 0, ad 1, ad 2, ad 3, ad 4, ad 5] rfl rfl rfl 0 3 rfl rfl rfl rfl rfl (Nat.le_of_ble_eq_true rfl) ⟨Nat.le_of_ble_eq_true rfl, Nat.le_of_ble_eq_true rfl⟩ ⟨Nat.le_refl _, Nat.le_refl _⟩ ?_
        refine g_if_eq_b cx 31 dX3_startOfB_26 (by decide) (fun hw5 => absurd (hy) hw5) (fun hw5 => ?_)
        refine g_iload_n (v := nI n - nI (sJ R n)) cx dX3_startOfB_29 rfl ?_
        exact hret _ _ _ _ dX3_startOfB_30 (rfl) (⟨by rw [sB, if_neg hw1, if_pos he]; exact rf_sub rfl rfl (by omega), rfl⟩)
      · have he2 : sJ R n = n + 1 := Nat.le_antisymm (ff_le _ (n + 1)) he
        refine g_iload_n (v := nI n - nI (sJ R n)) cx dX3_startOfB_17 rfl ?_
        refine g_if_lt cx 37 dX3_startOfB_18 (by decide) (fun hw6 => ?_) (fun hw6 => absurd (by rw [he2]; exact pk_sneg (by omega) (by omega)) hw6)
        refine g_aload_n (v := ad 0) cx dX3_startOfB_37 rfl ?_
        refine g_get (v := .int (R 5 0)) cx fk_X3_34 dX3_startOfB_38 0 rfl rfl ?_
        exact hret _ _ _ _ dX3_startOfB_41 (rfl) (⟨by rw [sB, if_neg hw1, if_neg (by omega), hn], rfl⟩)
  · skip
    refine g_aload_n (v := ad 0) cx dX3_startOfB_7 rfl ?_
    refine g_get (v := .int (R 5 0)) cx fk_X3_34 dX3_startOfB_8 0 rfl rfl ?_
    exact hret _ _ _ _ dX3_startOfB_11 (rfl) (⟨by rw [sB, if_pos hw1, hn], rfl⟩)
def rm_X3_bitsOfA : Room := { frames := 2, cells := 0, slots := 0, locals := 42 }
set_option maxRecDepth 100000 in
set_option maxHeartbeats 4000000 in
theorem c_X3_bitsOfA (V : VT) (ad : Nat → Nat) (R : S2) (n : Nat) (hn : R 5 0 = nI n) (hn6 : n ≤ 6) : CI V yX3_bitsOfA cX3_bitsOfA 1 .int rm_X3_bitsOfA [.ref (ad 0)] (wRing V ad R) (fun r_ w_ => r_ = ((1 : Int32) <<< (nI (eA R n) &&& 31)) - 1 ∧ w_ = wRing V ad R) := by
  refine CI_intro (by decide) (Nat.le_of_ble_eq_true rfl) (fun K cx hret => ?_)
  show G V K 1 0 0 (wRing V ad R) 0 [(0, .ref (ad 0))] []
  refine g_iconst (v := 1) cx dX3_bitsOfA_0 (by decide) ?_
  refine g_aload_n (v := ad 0) cx dX3_bitsOfA_1 rfl ?_
  refine k_calli (r0 := nI (eA R n)) (ws' := wRing V ad R) (As := []) (rest := [.int 1]) cx (c_X3_endOfA V ad R n hn (by omega)) ml_X3_110 dX3_bitsOfA_2 [0, 1, 2, 3, 4, 5] rfl rfl [ad 0, ad 1, ad 2, ad 3, ad 4, ad 5] rfl rfl rfl 0 3 rfl rfl rfl rfl rfl (Nat.le_of_ble_eq_true rfl) ⟨Nat.le_of_ble_eq_true rfl, Nat.le_of_ble_eq_true rfl⟩ ⟨Nat.le_refl _, Nat.le_refl _⟩ ?_
  refine g_ishl cx dX3_bitsOfA_5 ?_
  refine g_iconst (v := 1) cx dX3_bitsOfA_6 (by decide) ?_
  refine g_isub cx dX3_bitsOfA_7 ?_
  exact hret _ _ _ _ dX3_bitsOfA_8 (rfl) ⟨rfl, rfl⟩
def rm_X3_bitsOfB : Room := { frames := 2, cells := 0, slots := 0, locals := 42 }
set_option maxRecDepth 100000 in
set_option maxHeartbeats 4000000 in
theorem c_X3_bitsOfB (V : VT) (ad : Nat → Nat) (R : S2) (n : Nat) (hn : R 5 0 = nI n) (hn6 : n ≤ 6) : CI V yX3_bitsOfB cX3_bitsOfB 1 .int rm_X3_bitsOfB [.ref (ad 0)] (wRing V ad R) (fun r_ w_ => r_ = ((1 : Int32) <<< (R 5 0 &&& 31)) - ((1 : Int32) <<< (nI (sB R n) &&& 31)) ∧ w_ = wRing V ad R) := by
  refine CI_intro (by decide) (Nat.le_of_ble_eq_true rfl) (fun K cx hret => ?_)
  show G V K 1 0 0 (wRing V ad R) 0 [(0, .ref (ad 0))] []
  refine g_iconst (v := 1) cx dX3_bitsOfB_0 (by decide) ?_
  refine g_aload_n (v := ad 0) cx dX3_bitsOfB_1 rfl ?_
  refine g_get (v := .int (R 5 0)) cx fk_X3_34 dX3_bitsOfB_2 0 rfl rfl ?_
  refine g_ishl cx dX3_bitsOfB_5 ?_
  refine g_iconst (v := 1) cx dX3_bitsOfB_6 (by decide) ?_
  refine g_aload_n (v := ad 0) cx dX3_bitsOfB_7 rfl ?_
  refine k_calli (r0 := nI (sB R n)) (ws' := wRing V ad R) (As := []) (rest := [.int 1, .int ((1 : Int32) <<< ((R 5 0) &&& 31))]) cx (c_X3_startOfB V ad R n hn (by omega)) ml_X3_113 dX3_bitsOfB_8 [0, 1, 2, 3, 4, 5] rfl rfl [ad 0, ad 1, ad 2, ad 3, ad 4, ad 5] rfl rfl rfl 0 3 rfl rfl rfl rfl rfl (Nat.le_of_ble_eq_true rfl) ⟨Nat.le_of_ble_eq_true rfl, Nat.le_of_ble_eq_true rfl⟩ ⟨Nat.le_refl _, Nat.le_refl _⟩ ?_
  refine g_ishl cx dX3_bitsOfB_11 ?_
  refine g_isub cx dX3_bitsOfB_12 ?_
  exact hret _ _ _ _ dX3_bitsOfB_13 (rfl) ⟨rfl, rfl⟩
def rm_X3_bitsOfTurning : Room := { frames := 3, cells := 0, slots := 0, locals := 64 }
set_option maxRecDepth 100000 in
set_option maxHeartbeats 4000000 in
theorem c_X3_bitsOfTurning (V : VT) (ad : Nat → Nat) (R : S2) (n : Nat) (hn : R 5 0 = nI n) (hn6 : n ≤ 6) (m : Nat) (hm : rLinks R = nI m) (hm7 : m ≤ 7) : CI V yX3_bitsOfTurning cX3_bitsOfTurning 1 .int rm_X3_bitsOfTurning [.ref (ad 0)] (wRing V ad R) (fun r_ w_ => r_ = rTurn R n m ∧ w_ = wRing V ad R) := by
  refine CI_intro (by decide) (Nat.le_of_ble_eq_true rfl) (fun K cx hret => ?_)
  show G V K 1 0 0 (wRing V ad R) 0 [(0, .ref (ad 0))] []
  refine g_aload_n (v := ad 0) cx dX3_bitsOfTurning_0 rfl ?_
  refine k_calli (r0 := bI (¬ R 5 4 = 0 ∧ rCuts R m = 0)) (ws' := wRing V ad R) (As := []) (rest := []) cx (c_X3_isWhole V ad R m hm (by omega)) ml_X3_116 dX3_bitsOfTurning_1 [0, 1, 2, 3, 4, 5] rfl rfl [ad 0, ad 1, ad 2, ad 3, ad 4, ad 5] rfl rfl rfl 0 3 rfl rfl rfl rfl rfl (Nat.le_of_ble_eq_true rfl) ⟨Nat.le_of_ble_eq_true rfl, Nat.le_of_ble_eq_true rfl⟩ ⟨Nat.le_refl _, Nat.le_refl _⟩ ?_
  refine g_if_eq_b cx 11 dX3_bitsOfTurning_4 (by decide) (fun hw1 => ?_) (fun hw1 => ?_)
  · skip
    refine g_aload_n (v := ad 0) cx dX3_bitsOfTurning_11 rfl ?_
    refine k_calli (r0 := ((1 : Int32) <<< (nI (eA R n) &&& 31)) - 1) (ws' := wRing V ad R) (As := []) (rest := []) cx (c_X3_bitsOfA V ad R n hn (by omega)) ml_X3_119 dX3_bitsOfTurning_12 [0, 1, 2, 3, 4, 5] rfl rfl [ad 0, ad 1, ad 2, ad 3, ad 4, ad 5] rfl rfl rfl 0 3 rfl rfl rfl rfl rfl (Nat.le_of_ble_eq_true rfl) ⟨Nat.le_of_ble_eq_true rfl, Nat.le_of_ble_eq_true rfl⟩ ⟨Nat.le_refl _, Nat.le_refl _⟩ ?_
    refine g_aload_n (v := ad 0) cx dX3_bitsOfTurning_15 rfl ?_
    refine k_calli (r0 := ((1 : Int32) <<< (R 5 0 &&& 31)) - ((1 : Int32) <<< (nI (sB R n) &&& 31))) (ws' := wRing V ad R) (As := []) (rest := [.int (((1 : Int32) <<< (nI (eA R n) &&& 31)) - 1)]) cx (c_X3_bitsOfB V ad R n hn (by omega)) ml_X3_122 dX3_bitsOfTurning_16 [0, 1, 2, 3, 4, 5] rfl rfl [ad 0, ad 1, ad 2, ad 3, ad 4, ad 5] rfl rfl rfl 0 3 rfl rfl rfl rfl rfl (Nat.le_of_ble_eq_true rfl) ⟨Nat.le_of_ble_eq_true rfl, Nat.le_of_ble_eq_true rfl⟩ ⟨Nat.le_refl _, Nat.le_refl _⟩ ?_
    refine g_ior cx dX3_bitsOfTurning_19 ?_
    exact hret _ _ _ _ dX3_bitsOfTurning_20 (rfl) (⟨by rw [rTurn, if_neg hw1], rfl⟩)
  · skip
    refine g_iconst (v := 0) cx dX3_bitsOfTurning_7 (by decide) ?_
    refine g_goto cx 20 dX3_bitsOfTurning_8 (by decide) ?_
    exact hret _ _ _ _ dX3_bitsOfTurning_20 (rfl) (⟨by rw [rTurn, if_pos hw1], rfl⟩)
def rm_X3_offOf : Room := { frames := 1, cells := 0, slots := 0, locals := 22 }
set_option maxRecDepth 100000 in
set_option maxHeartbeats 4000000 in
theorem c_X3_offOf (V : VT) (ad : Nat → Nat) (R : S2) (x : Int32) (d : Nat) (hx : x = nI d) (hd : d < 6) : CI V yX3_offOf cX3_offOf 2 .int rm_X3_offOf [.ref (ad 0), .int x] (wRing V ad R) (fun r_ w_ => r_ = rOff R d ∧ w_ = wRing V ad R) := by
  refine CI_intro (by decide) (Nat.le_of_ble_eq_true rfl) (fun K cx hret => ?_)
  show G V K 2 0 0 (wRing V ad R) 0 [(0, .ref (ad 0)), (1, .int x)] []
  refine g_aload_n (v := ad 0) cx dX3_offOf_0 rfl ?_
  refine g_iload_n (v := x) cx dX3_offOf_1 rfl ?_
  refine g_bipush (v := 7) cx dX3_offOf_2 (by decide) ?_
  refine k_calli (r0 := R 0 (d * 9 + 7)) (ws' := wRing V ad R) (As := [.int x, .int 7]) (rest := []) cx (c_X3_ofDrive V ad R x 7 (d * 9 + 7) (rf_add (rf_mul hx rfl) (nl 7)) (by omega)) ml_X3_96 dX3_offOf_4 [0, 1, 2, 3, 4, 5] rfl rfl [ad 0, ad 1, ad 2, ad 3, ad 4, ad 5] rfl rfl rfl 0 3 rfl rfl rfl rfl rfl (Nat.le_of_ble_eq_true rfl) ⟨Nat.le_of_ble_eq_true rfl, Nat.le_of_ble_eq_true rfl⟩ ⟨Nat.le_refl _, Nat.le_refl _⟩ ?_
  refine g_aload_n (v := ad 0) cx dX3_offOf_7 rfl ?_
  refine g_iload_n (v := x) cx dX3_offOf_8 rfl ?_
  refine g_bipush (v := 8) cx dX3_offOf_9 (by decide) ?_
  refine k_calli (r0 := R 0 (d * 9 + 8)) (ws' := wRing V ad R) (As := [.int x, .int 8]) (rest := [.int (R 0 (d * 9 + 7))]) cx (c_X3_ofDrive V ad R x 8 (d * 9 + 8) (rf_add (rf_mul hx rfl) (nl 8)) (by omega)) ml_X3_96 dX3_offOf_11 [0, 1, 2, 3, 4, 5] rfl rfl [ad 0, ad 1, ad 2, ad 3, ad 4, ad 5] rfl rfl rfl 0 3 rfl rfl rfl rfl rfl (Nat.le_of_ble_eq_true rfl) ⟨Nat.le_of_ble_eq_true rfl, Nat.le_of_ble_eq_true rfl⟩ ⟨Nat.le_refl _, Nat.le_refl _⟩ ?_
  refine g_isub cx dX3_offOf_14 ?_
  exact hret _ _ _ _ dX3_offOf_15 (rfl) ⟨rfl, rfl⟩
def rm_X3_spread : Room := { frames := 2, cells := 0, slots := 0, locals := 43 }
set_option maxRecDepth 100000 in
set_option maxHeartbeats 4000000 in
theorem c_X3_spread (V : VT) (ad : Nat → Nat) (R : S2) (n : Nat) (hn : R 5 0 = nI n) (hn6 : n ≤ 6) (hn1 : 1 ≤ n) : CI V yX3_spread cX3_spread 4 .int rm_X3_spread [.ref (ad 0)] (wRing V ad R) (fun r_ w_ => r_ = rMax R (n - 1) - rMin R (n - 1) ∧ w_ = wRing V ad R) := by
  refine CI_intro (by decide) (Nat.le_of_ble_eq_true rfl) (fun K cx hret => ?_)
  show G V K 4 0 0 (wRing V ad R) 0 [(0, .ref (ad 0))] []
  refine g_aload_n (v := ad 0) cx dX3_spread_0 rfl ?_
  refine g_iconst (v := 0) cx dX3_spread_1 (by decide) ?_
  refine k_calli (r0 := rOff R 0) (ws' := wRing V ad R) (As := [.int 0]) (rest := []) cx (c_X3_offOf V ad R 0 0 (nl 0) (by omega)) ml_X3_128 dX3_spread_2 [0, 1, 2, 3, 4, 5] rfl rfl [ad 0, ad 1, ad 2, ad 3, ad 4, ad 5] rfl rfl rfl 0 3 rfl rfl rfl rfl rfl (Nat.le_of_ble_eq_true rfl) ⟨Nat.le_of_ble_eq_true rfl, Nat.le_of_ble_eq_true rfl⟩ ⟨Nat.le_refl _, Nat.le_refl _⟩ ?_
  refine g_istore_n (lv' := [(0, .ref (ad 0)), (1, .int (rOff R 0))]) cx dX3_spread_5 (by decide) rfl ?_
  refine g_iload_n (v := rOff R 0) cx dX3_spread_6 rfl ?_
  refine g_istore_n (lv' := [(0, .ref (ad 0)), (1, .int (rOff R 0)), (2, .int (rOff R 0))]) cx dX3_spread_7 (by decide) rfl ?_
  refine g_iconst (v := 1) cx dX3_spread_8 (by decide) ?_
  refine g_istore_n (lv' := [(0, .ref (ad 0)), (1, .int (rOff R 0)), (2, .int (rOff R 0)), (3, .int 1)]) cx dX3_spread_9 (by decide) rfl ?_
  refine rf_dn (P := fun i1 => G V K 4 0 0 (wRing V ad R) 10 [(0, .ref (ad 0)), (1, .int (rMin R i1)), (2, .int (rMax R i1)), (3, .int (nI (1 + i1)))] []) (n - 1) (fun i1 hi1 ihi1 => ?_) ?_
  · skip
    refine g_iload_n (v := nI (1 + i1)) cx dX3_spread_10 rfl ?_
    refine g_aload_n (v := ad 0) cx dX3_spread_11 rfl ?_
    refine g_get (v := .int (R 5 0)) cx fk_X3_34 dX3_spread_12 0 rfl rfl ?_
    refine g_icmp_ge cx 44 dX3_spread_15 (by decide) (fun hw1 => absurd hw1 (rf_geMN rfl hn (by omega) (by omega) (by omega))) (fun hw1 => ?_)
    refine g_iload_n (v := rMin R i1) cx dX3_spread_18 rfl ?_
    refine g_aload_n (v := ad 0) cx dX3_spread_19 rfl ?_
    refine g_iload_n (v := nI (1 + i1)) cx dX3_spread_20 rfl ?_
    refine k_calli (r0 := rOff R (1 + i1)) (ws' := wRing V ad R) (As := [.int (nI (1 + i1))]) (rest := [.int (rMin R i1)]) cx (c_X3_offOf V ad R (nI (1 + i1)) (1 + i1) rfl (by omega)) ml_X3_128 dX3_spread_21 [0, 1, 2, 3, 4, 5] rfl rfl [ad 0, ad 1, ad 2, ad 3, ad 4, ad 5] rfl rfl rfl 0 3 rfl rfl rfl rfl rfl (Nat.le_of_ble_eq_true rfl) ⟨Nat.le_of_ble_eq_true rfl, Nat.le_of_ble_eq_true rfl⟩ ⟨Nat.le_refl _, Nat.le_refl _⟩ ?_
    refine g_mmin cx ml_X3_132 dX3_spread_24 (Nat.le_of_ble_eq_true rfl) (Nat.le_of_ble_eq_true rfl) (Nat.zero_le _) (Nat.zero_le _) ?_
    refine g_istore_n (lv' := [(0, .ref (ad 0)), (1, .int (if (rOff R (1 + i1)) < (rMin R i1) then rOff R (1 + i1) else rMin R i1)), (2, .int (rMax R i1)), (3, .int (nI (1 + i1)))]) cx dX3_spread_27 (by decide) rfl ?_
    refine g_iload_n (v := rMax R i1) cx dX3_spread_28 rfl ?_
    refine g_aload_n (v := ad 0) cx dX3_spread_29 rfl ?_
    refine g_iload_n (v := nI (1 + i1)) cx dX3_spread_30 rfl ?_
    refine k_calli (r0 := rOff R (1 + i1)) (ws' := wRing V ad R) (As := [.int (nI (1 + i1))]) (rest := [.int (rMax R i1)]) cx (c_X3_offOf V ad R (nI (1 + i1)) (1 + i1) rfl (by omega)) ml_X3_128 dX3_spread_31 [0, 1, 2, 3, 4, 5] rfl rfl [ad 0, ad 1, ad 2, ad 3, ad 4, ad 5] rfl rfl rfl 0 3 rfl rfl rfl rfl rfl (Nat.le_of_ble_eq_true rfl) ⟨Nat.le_of_ble_eq_true rfl, Nat.le_of_ble_eq_true rfl⟩ ⟨Nat.le_refl _, Nat.le_refl _⟩ ?_
    refine g_mmax cx ml_X3_137 dX3_spread_34 (Nat.le_of_ble_eq_true rfl) (Nat.le_of_ble_eq_true rfl) (Nat.zero_le _) (Nat.zero_le _) ?_
    refine g_istore_n (lv' := [(0, .ref (ad 0)), (1, .int (if (rOff R (1 + i1)) < (rMin R i1) then rOff R (1 + i1) else rMin R i1)), (2, .int (if (rMax R i1) < (rOff R (1 + i1)) then rOff R (1 + i1) else rMax R i1)), (3, .int (nI (1 + i1)))]) cx dX3_spread_37 (by decide) rfl ?_
    refine g_iinc (x := nI (1 + i1)) (v := nI ((1 + i1) + 1)) (lv' := [(0, .ref (ad 0)), (1, .int (if (rOff R (1 + i1)) < (rMin R i1) then rOff R (1 + i1) else rMin R i1)), (2, .int (if (rMax R i1) < (rOff R (1 + i1)) then rOff R (1 + i1) else rMax R i1)), (3, .int (nI ((1 + i1) + 1)))]) cx dX3_spread_38 rfl (by decide) (nI_add _ _) rfl ?_
    refine g_goto cx 10 dX3_spread_41 (by decide) ?_
    exact ihi1
  · skip
    refine g_iload_n (v := nI (1 + (n - 1))) cx dX3_spread_10 rfl ?_
    refine g_aload_n (v := ad 0) cx dX3_spread_11 rfl ?_
    refine g_get (v := .int (R 5 0)) cx fk_X3_34 dX3_spread_12 0 rfl rfl ?_
    refine g_icmp_ge cx 44 dX3_spread_15 (by decide) (fun hw2 => ?_) (fun hw2 => absurd (rf_geMP rfl hn (by omega) (by omega) (by omega)) hw2)
    refine g_iload_n (v := rMax R (n - 1)) cx dX3_spread_44 rfl ?_
    refine g_iload_n (v := rMin R (n - 1)) cx dX3_spread_45 rfl ?_
    refine g_isub cx dX3_spread_46 ?_
    exact hret _ _ _ _ dX3_spread_47 (rfl) ⟨rfl, rfl⟩
def rm_X3_lengths : Room := { frames := 1, cells := 0, slots := 0, locals := 22 }
set_option maxRecDepth 100000 in
set_option maxHeartbeats 4000000 in
theorem c_X3_lengths (V : VT) (ad : Nat → Nat) (R : S2) (x y : Int32) (a m : Nat) (hx : x = nI a) (hy : y = nI (a + m) - 1) (hm : a + m ≤ 7) : CI V yX3_lengths cX3_lengths 5 .int rm_X3_lengths [.ref (ad 0), .int x, .int y] (wRing V ad R) (fun r_ w_ => r_ = rLen R a m ∧ w_ = wRing V ad R) := by
  refine CI_intro (by decide) (Nat.le_of_ble_eq_true rfl) (fun K cx hret => ?_)
  show G V K 5 0 0 (wRing V ad R) 0 [(0, .ref (ad 0)), (1, .int x), (2, .int y)] []
  subst hx
  refine g_iconst (v := 0) cx dX3_lengths_0 (by decide) ?_
  refine g_istore_n (lv' := [(0, .ref (ad 0)), (1, .int (nI a)), (2, .int y), (3, .int 0)]) cx dX3_lengths_1 (by decide) rfl ?_
  refine g_iload_n (v := nI a) cx dX3_lengths_2 rfl ?_
  refine g_istore (lv' := [(0, .ref (ad 0)), (1, .int (nI a)), (2, .int y), (3, .int 0), (4, .int (nI a))]) cx dX3_lengths_3 (by decide) rfl ?_
  refine rf_dn (P := fun i1 => G V K 5 0 0 (wRing V ad R) 5 [(0, .ref (ad 0)), (1, .int (nI a)), (2, .int y), (3, .int (rLen R a i1)), (4, .int (nI (a + i1)))] []) (m) (fun i1 hi1 ihi1 => ?_) ?_
  · skip
    refine g_iload (v := nI (a + i1)) cx dX3_lengths_5 rfl ?_
    refine g_iload_n (v := y) cx dX3_lengths_7 rfl ?_
    refine g_icmp_gt cx 27 dX3_lengths_8 (by decide) (fun hw1 => absurd hw1 (by rw [hy]; exact rf_predN (by omega) (by omega) (by omega))) (fun hw1 => ?_)
    refine g_iload_n (v := rLen R a i1) cx dX3_lengths_11 rfl ?_
    refine g_aload_n (v := ad 0) cx dX3_lengths_12 rfl ?_
    refine g_iload (v := nI (a + i1)) cx dX3_lengths_13 rfl ?_
    refine g_iconst (v := 0) cx dX3_lengths_15 (by decide) ?_
    refine k_calli (r0 := R 1 ((a + i1) * 2 + 0)) (ws' := wRing V ad R) (As := [.int (nI (a + i1)), .int 0]) (rest := [.int (rLen R a i1)]) cx (c_X3_ofLink V ad R (nI (a + i1)) 0 ((a + i1) * 2 + 0) (rf_add (rf_mul rfl rfl) (nl 0)) (by omega)) ml_X3_100 dX3_lengths_16 [0, 1, 2, 3, 4, 5] rfl rfl [ad 0, ad 1, ad 2, ad 3, ad 4, ad 5] rfl rfl rfl 0 3 rfl rfl rfl rfl rfl (Nat.le_of_ble_eq_true rfl) ⟨Nat.le_of_ble_eq_true rfl, Nat.le_of_ble_eq_true rfl⟩ ⟨Nat.le_refl _, Nat.le_refl _⟩ ?_
    refine g_iadd cx dX3_lengths_19 ?_
    refine g_istore_n (lv' := [(0, .ref (ad 0)), (1, .int (nI a)), (2, .int y), (3, .int ((rLen R a i1) + (R 1 ((a + i1) * 2 + 0)))), (4, .int (nI (a + i1)))]) cx dX3_lengths_20 (by decide) rfl ?_
    refine g_iinc (x := nI (a + i1)) (v := nI ((a + i1) + 1)) (lv' := [(0, .ref (ad 0)), (1, .int (nI a)), (2, .int y), (3, .int ((rLen R a i1) + (R 1 ((a + i1) * 2 + 0)))), (4, .int (nI ((a + i1) + 1)))]) cx dX3_lengths_21 rfl (by decide) (nI_add _ _) rfl ?_
    refine g_goto cx 5 dX3_lengths_24 (by decide) ?_
    exact ihi1
  · skip
    refine g_iload (v := nI (a + m)) cx dX3_lengths_5 rfl ?_
    refine g_iload_n (v := y) cx dX3_lengths_7 rfl ?_
    refine g_icmp_gt cx 27 dX3_lengths_8 (by decide) (fun hw2 => ?_) (fun hw2 => absurd (by rw [hy]; exact rf_predP (by omega) (by omega) (by omega)) hw2)
    refine g_iload_n (v := rLen R a m) cx dX3_lengths_27 rfl ?_
    exact hret _ _ _ _ dX3_lengths_28 (rfl) ⟨rfl, rfl⟩
def rm_X3_timeThereAndBack : Room := { frames := 0, cells := 0, slots := 0, locals := 0 }
set_option maxRecDepth 100000 in
set_option maxHeartbeats 4000000 in
theorem c_X3_timeThereAndBack (V : VT) (x y : Int32) : CI V yX3_timeThereAndBack cX3_timeThereAndBack 2 .int rm_X3_timeThereAndBack [.int x, .int y] (([] : va_W)) (fun r_ w_ => r_ = rTTB x y ∧ w_ = ([] : va_W)) := by
  refine CI_intro (by decide) (Nat.le_of_ble_eq_true rfl) (fun K cx hret => ?_)
  show G V K 2 0 0 (([] : va_W)) 0 [(0, .int x), (1, .int y)] []
  refine g_iload_n (v := y) cx dX3_timeThereAndBack_0 rfl ?_
  refine g_if_ne cx 9 dX3_timeThereAndBack_1 (by decide) (fun hw1 => ?_) (fun hw1 => ?_)
  · skip
    refine g_iconst (v := 2) cx dX3_timeThereAndBack_9 (by decide) ?_
    refine g_iload_n (v := x) cx dX3_timeThereAndBack_10 rfl ?_
    refine g_imul cx dX3_timeThereAndBack_11 ?_
    refine g_iconst (v := 2) cx dX3_timeThereAndBack_12 (by decide) ?_
    refine g_iload_n (v := y) cx dX3_timeThereAndBack_13 rfl ?_
    refine g_imul cx dX3_timeThereAndBack_14 ?_
    refine g_iadd cx dX3_timeThereAndBack_15 ?_
    refine g_iconst (v := 1) cx dX3_timeThereAndBack_16 (by decide) ?_
    refine g_isub cx dX3_timeThereAndBack_17 ?_
    exact hret _ _ _ _ dX3_timeThereAndBack_18 (rfl) (⟨by rw [rTTB, if_neg hw1], rfl⟩)
  · skip
    refine g_bipush (v := (-9)) cx dX3_timeThereAndBack_4 (by decide) ?_
    refine g_goto cx 18 dX3_timeThereAndBack_6 (by decide) ?_
    exact hret _ _ _ _ dX3_timeThereAndBack_18 (rfl) (⟨by rw [rTTB, if_pos hw1], rfl⟩)
def rm_X3_takeTimesAround : Room := { frames := 2, cells := 0, slots := 0, locals := 46 }
set_option maxRecDepth 100000 in
set_option maxHeartbeats 4000000 in
theorem c_X3_takeTimesAround (V : VT) (ad : Nat → Nat) (R : S2) (n : Nat) (hn : R 5 0 = nI n) (hn6 : n ≤ 6) : CV V yX3_takeTimesAround cX3_takeTimesAround 1 rm_X3_takeTimesAround [.ref (ad 0)] (wRing V ad R) (fun w_ => w_ = wRing V ad (u1 R 4 (rFill (R 4) (rLen R 0 (n + 1) + R 5 0) 0 2))) := by
  refine CV_intro (by decide) (Nat.le_of_ble_eq_true rfl) (fun K cx hci hret => ?_)
  show G V K 1 0 0 (wRing V ad R) 0 [(0, .ref (ad 0))] []
  refine g_aload_n (v := ad 0) cx dX3_takeTimesAround_0 rfl ?_
  refine g_get (v := .ref (ad 5)) cx fk_X3_24 dX3_takeTimesAround_1 0 rfl rfl ?_
  refine g_aload_n (v := ad 0) cx dX3_takeTimesAround_4 rfl ?_
  refine g_iconst (v := 0) cx dX3_takeTimesAround_5 (by decide) ?_
  refine g_aload_n (v := ad 0) cx dX3_takeTimesAround_6 rfl ?_
  refine g_get (v := .int (R 5 0)) cx fk_X3_34 dX3_takeTimesAround_7 0 rfl rfl ?_
  refine k_calli (r0 := rLen R 0 (n + 1)) (ws' := wRing V ad R) (As := [.int 0, .int (R 5 0)]) (rest := [.ref (ad 5)]) cx (c_X3_lengths V ad R 0 (R 5 0) 0 (n + 1) rfl (by rw [hn, Nat.zero_add, nI_m1]) (by omega)) ml_X3_140 dX3_takeTimesAround_10 [0, 1, 2, 3, 4, 5] rfl rfl [ad 0, ad 1, ad 2, ad 3, ad 4, ad 5] rfl rfl rfl 0 3 rfl rfl rfl rfl rfl (Nat.le_of_ble_eq_true rfl) ⟨Nat.le_of_ble_eq_true rfl, Nat.le_of_ble_eq_true rfl⟩ ⟨Nat.le_refl _, Nat.le_refl _⟩ ?_
  refine g_aload_n (v := ad 0) cx dX3_takeTimesAround_13 rfl ?_
  refine g_get (v := .int (R 5 0)) cx fk_X3_34 dX3_takeTimesAround_14 0 rfl rfl ?_
  refine g_iadd cx dX3_takeTimesAround_17 ?_
  refine k_callsv (ws' := wRing V ad (u1 R 4 (rFill (R 4) ((rLen R 0 (n + 1)) + (R 5 0)) 0 2))) (As := [.ref (ad 5), .int ((rLen R 0 (n + 1)) + (R 5 0))]) (rest := []) cx (c_J7_fill_53178 V (ad 5) 2 (R 4) ((rLen R 0 (n + 1)) + (R 5 0)) (by decide)) ml_X3_60 dX3_takeTimesAround_18 [5] rfl rfl [ad 5] rfl rfl rfl rfl rfl (Nat.le_of_ble_eq_true rfl) ⟨Nat.le_of_ble_eq_true rfl, Nat.le_of_ble_eq_true rfl⟩ ⟨Nat.le_refl _, Nat.le_refl _⟩ ?_
  exact hret _ _ _ dX3_takeTimesAround_21 (rfl)
def rm_X3_takeTimesOfTurning : Room := { frames := 2, cells := 0, slots := 0, locals := 46 }
set_option maxRecDepth 100000 in
set_option maxHeartbeats 4000000 in
theorem c_X3_takeTimesOfTurning (V : VT) (ad : Nat → Nat) (R : S2) (n : Nat) (hn : R 5 0 = nI n) (hn6 : n ≤ 6) : CV V yX3_takeTimesOfTurning cX3_takeTimesOfTurning 3 rm_X3_takeTimesOfTurning [.ref (ad 0)] (wRing V ad R) (fun w_ => w_ = wRing V ad (rTimesT R n)) := by
  refine CV_intro (by decide) (Nat.le_of_ble_eq_true rfl) (fun K cx hci hret => ?_)
  show G V K 3 0 0 (wRing V ad R) 0 [(0, .ref (ad 0))] []
  have hea : eA R n ≤ n := ff_le (rCut R) n
  have hsb : sB R n ≤ n := by unfold sB; split; exact Nat.le_refl n; split <;> omega
  refine g_aload_n (v := ad 0) cx dX3_takeTimesOfTurning_0 rfl ?_
  refine k_calli (r0 := nI (eA R n)) (ws' := wRing V ad R) (As := []) (rest := []) cx (c_X3_endOfA V ad R n hn (by omega)) ml_X3_110 dX3_takeTimesOfTurning_1 [0, 1, 2, 3, 4, 5] rfl rfl [ad 0, ad 1, ad 2, ad 3, ad 4, ad 5] rfl rfl rfl 0 3 rfl rfl rfl rfl rfl (Nat.le_of_ble_eq_true rfl) ⟨Nat.le_of_ble_eq_true rfl, Nat.le_of_ble_eq_true rfl⟩ ⟨Nat.le_refl _, Nat.le_refl _⟩ ?_
  refine g_istore_n (lv' := [(0, .ref (ad 0)), (1, .int (nI (eA R n)))]) cx dX3_takeTimesOfTurning_4 (by decide) rfl ?_
  refine g_aload_n (v := ad 0) cx dX3_takeTimesOfTurning_5 rfl ?_
  refine k_calli (r0 := nI (sB R n)) (ws' := wRing V ad R) (As := []) (rest := []) cx (c_X3_startOfB V ad R n hn (by omega)) ml_X3_113 dX3_takeTimesOfTurning_6 [0, 1, 2, 3, 4, 5] rfl rfl [ad 0, ad 1, ad 2, ad 3, ad 4, ad 5] rfl rfl rfl 0 3 rfl rfl rfl rfl rfl (Nat.le_of_ble_eq_true rfl) ⟨Nat.le_of_ble_eq_true rfl, Nat.le_of_ble_eq_true rfl⟩ ⟨Nat.le_refl _, Nat.le_refl _⟩ ?_
  refine g_istore_n (lv' := [(0, .ref (ad 0)), (1, .int (nI (eA R n))), (2, .int (nI (sB R n)))]) cx dX3_takeTimesOfTurning_9 (by decide) rfl ?_
  refine g_aload_n (v := ad 0) cx dX3_takeTimesOfTurning_10 rfl ?_
  refine g_get (v := .ref (ad 5)) cx fk_X3_24 dX3_takeTimesOfTurning_11 0 rfl rfl ?_
  refine g_iconst (v := 0) cx dX3_takeTimesOfTurning_14 (by decide) ?_
  refine g_aload_n (v := ad 0) cx dX3_takeTimesOfTurning_15 rfl ?_
  refine g_iconst (v := 0) cx dX3_takeTimesOfTurning_16 (by decide) ?_
  refine g_iload_n (v := nI (eA R n)) cx dX3_takeTimesOfTurning_17 rfl ?_
  refine g_iconst (v := 1) cx dX3_takeTimesOfTurning_18 (by decide) ?_
  refine g_isub cx dX3_takeTimesOfTurning_19 ?_
  refine k_calli (r0 := rLen R 0 (eA R n)) (ws' := wRing V ad R) (As := [.int 0, .int ((nI (eA R n)) - 1)]) (rest := [.int 0, .ref (ad 5)]) cx (c_X3_lengths V ad R 0 ((nI (eA R n)) - 1) 0 (eA R n) rfl (by rw [Nat.zero_add]) (by omega)) ml_X3_140 dX3_takeTimesOfTurning_20 [0, 1, 2, 3, 4, 5] rfl rfl [ad 0, ad 1, ad 2, ad 3, ad 4, ad 5] rfl rfl rfl 0 3 rfl rfl rfl rfl rfl (Nat.le_of_ble_eq_true rfl) ⟨Nat.le_of_ble_eq_true rfl, Nat.le_of_ble_eq_true rfl⟩ ⟨Nat.le_refl _, Nat.le_refl _⟩ ?_
  refine g_iload_n (v := nI (eA R n)) cx dX3_takeTimesOfTurning_23 rfl ?_
  refine k_callsi (r0 := rTTB (rLen R 0 (eA R n)) (nI (eA R n))) (ws' := wRing V ad R) (As := [.int (rLen R 0 (eA R n)), .int (nI (eA R n))]) (rest := [.int 0, .ref (ad 5)]) cx (c_X3_timeThereAndBack V (rLen R 0 (eA R n)) (nI (eA R n))) ml_X3_143 dX3_takeTimesOfTurning_24 [] rfl rfl [] rfl rfl rfl rfl rfl (Nat.le_of_ble_eq_true rfl) ⟨Nat.le_of_ble_eq_true rfl, Nat.le_of_ble_eq_true rfl⟩ ⟨Nat.le_refl _, Nat.le_refl _⟩ ?_
  refine g_iast (ws' := wRing V ad (u2 R 4 0 (rTTB (rLen R 0 (eA R n)) (nI (eA R n))))) cx dX3_takeTimesOfTurning_27 5 0 rfl (rfl) (by decide) (by first | decide | omega) rfl ?_
  refine g_aload_n (v := ad 0) cx dX3_takeTimesOfTurning_28 rfl ?_
  refine g_get (v := .ref (ad 5)) cx fk_X3_24 dX3_takeTimesOfTurning_29 0 rfl rfl ?_
  refine g_iconst (v := 1) cx dX3_takeTimesOfTurning_32 (by decide) ?_
  refine g_aload_n (v := ad 0) cx dX3_takeTimesOfTurning_33 rfl ?_
  refine g_iload_n (v := nI (sB R n)) cx dX3_takeTimesOfTurning_34 rfl ?_
  refine g_iconst (v := 1) cx dX3_takeTimesOfTurning_35 (by decide) ?_
  refine g_iadd cx dX3_takeTimesOfTurning_36 ?_
  refine g_aload_n (v := ad 0) cx dX3_takeTimesOfTurning_37 rfl ?_
  refine g_get (v := .int (R 5 0)) cx fk_X3_34 dX3_takeTimesOfTurning_38 0 rfl rfl ?_
  refine k_calli (r0 := rLen R (sB R n + 1) (n - sB R n)) (ws' := wRing V ad (u2 R 4 0 (rTTB (rLen R 0 (eA R n)) (nI (eA R n))))) (As := [.int ((nI (sB R n)) + 1), .int (R 5 0)]) (rest := [.int 1, .ref (ad 5)]) cx (c_X3_lengths V ad (u2 R 4 0 (rTTB (rLen R 0 (eA R n)) (nI (eA R n)))) ((nI (sB R n)) + 1) (R 5 0) (sB R n + 1) (n - sB R n) (rf_add rfl rfl) (by rw [show sB R n + 1 + (n - sB R n) = n + 1 by omega, nI_m1]; exact hn) (by omega)) ml_X3_140 dX3_takeTimesOfTurning_41 [0, 1, 2, 3, 4, 5] rfl rfl [ad 0, ad 1, ad 2, ad 3, ad 4, ad 5] rfl rfl rfl 0 3 rfl rfl rfl rfl rfl (Nat.le_of_ble_eq_true rfl) ⟨Nat.le_of_ble_eq_true rfl, Nat.le_of_ble_eq_true rfl⟩ ⟨Nat.le_refl _, Nat.le_refl _⟩ ?_
  refine g_aload_n (v := ad 0) cx dX3_takeTimesOfTurning_44 rfl ?_
  refine g_get (v := .int (R 5 0)) cx fk_X3_34 dX3_takeTimesOfTurning_45 0 rfl rfl ?_
  refine g_iload_n (v := nI (sB R n)) cx dX3_takeTimesOfTurning_48 rfl ?_
  refine g_isub cx dX3_takeTimesOfTurning_49 ?_
  refine k_callsi (r0 := rTTB (rLen R (sB R n + 1) (n - sB R n)) ((R 5 0) - (nI (sB R n)))) (ws' := wRing V ad (u2 R 4 0 (rTTB (rLen R 0 (eA R n)) (nI (eA R n))))) (As := [.int (rLen R (sB R n + 1) (n - sB R n)), .int ((R 5 0) - (nI (sB R n)))]) (rest := [.int 1, .ref (ad 5)]) cx (c_X3_timeThereAndBack V (rLen R (sB R n + 1) (n - sB R n)) ((R 5 0) - (nI (sB R n)))) ml_X3_143 dX3_takeTimesOfTurning_50 [] rfl rfl [] rfl rfl rfl rfl rfl (Nat.le_of_ble_eq_true rfl) ⟨Nat.le_of_ble_eq_true rfl, Nat.le_of_ble_eq_true rfl⟩ ⟨Nat.le_refl _, Nat.le_refl _⟩ ?_
  refine g_iast (ws' := wRing V ad (u2 (u2 R 4 0 (rTTB (rLen R 0 (eA R n)) (nI (eA R n)))) 4 1 (rTTB (rLen R (sB R n + 1) (n - sB R n)) ((R 5 0) - (nI (sB R n)))))) cx dX3_takeTimesOfTurning_53 5 1 rfl (rfl) (by decide) (by first | decide | omega) rfl ?_
  exact hret _ _ _ dX3_takeTimesOfTurning_54 (rfl)
def rm_X3_look : Room := { frames := 1, cells := 0, slots := 0, locals := 22 }
set_option maxRecDepth 100000 in
set_option maxHeartbeats 4000000 in
theorem c_X3_look (V : VT) (ad : Nat → Nat) (R : S2) (x : Int32) (w o : Nat) (hx : x = nI w) (hw : w < 6) (ho : R 5 1 = nI o) (ho4 : o ≤ 4) : CI V yX3_look cX3_look 2 .int rm_X3_look [.ref (ad 0), .int x] (wRing V ad R) (fun r_ w_ => r_ = rLook R o w ∧ w_ = wRing V ad R) := by
  refine CI_intro (by decide) (Nat.le_of_ble_eq_true rfl) (fun K cx hret => ?_)
  show G V K 2 0 0 (wRing V ad R) 0 [(0, .ref (ad 0)), (1, .int x)] []
  refine g_iload_n (v := x) cx dX3_look_0 rfl ?_
  refine g_iconst (v := 4) cx dX3_look_1 (by decide) ?_
  refine g_icmp_lt cx 14 dX3_look_2 (by decide) (fun hw1 => ?_) (fun hw1 => ?_)
  · have hw1 := rf_ltP hx (nl 4) (by omega) (by omega) hw1
    refine g_iload_n (v := x) cx dX3_look_14 rfl ?_
    refine g_aload_n (v := ad 0) cx dX3_look_15 rfl ?_
    refine g_get (v := .int (R 5 1)) cx fk_X3_54 dX3_look_16 0 rfl rfl ?_
    refine g_icmp_ge cx 31 dX3_look_19 (by decide) (fun hw2 => ?_) (fun hw2 => ?_)
    · have hw2 := rf_geP hx ho (by omega) (by omega) hw2
      refine g_iconst (v := 0) cx dX3_look_31 (by decide) ?_
      exact hret _ _ _ _ dX3_look_32 (rfl) (⟨by rw [rLook]; simp only [hw1, hw2, not_true_eq_false, not_false_eq_true, and_true, true_and, and_false, false_and, or_true, true_or, or_false, false_or, if_true, if_false], rfl⟩)
    · have hw2 := rf_geN hx ho (by omega) (by omega) hw2
      refine g_aload_n (v := ad 0) cx dX3_look_22 rfl ?_
      refine g_iload_n (v := x) cx dX3_look_23 rfl ?_
      refine g_iconst (v := 0) cx dX3_look_24 (by decide) ?_
      refine k_calli (r0 := R 3 (w * 2 + 0)) (ws' := wRing V ad R) (As := [.int x, .int 0]) (rest := []) cx (c_X3_ofResult V ad R x 0 (w * 2 + 0) (rf_add (rf_mul hx rfl) (nl 0)) (by omega)) ml_X3_146 dX3_look_25 [0, 1, 2, 3, 4, 5] rfl rfl [ad 0, ad 1, ad 2, ad 3, ad 4, ad 5] rfl rfl rfl 0 3 rfl rfl rfl rfl rfl (Nat.le_of_ble_eq_true rfl) ⟨Nat.le_of_ble_eq_true rfl, Nat.le_of_ble_eq_true rfl⟩ ⟨Nat.le_refl _, Nat.le_refl _⟩ ?_
      refine g_goto cx 32 dX3_look_28 (by decide) ?_
      exact hret _ _ _ _ dX3_look_32 (rfl) (⟨by rw [rLook]; simp only [hw1, hw2, not_true_eq_false, not_false_eq_true, and_true, true_and, and_false, false_and, or_true, true_or, or_false, false_or, if_true, if_false], rfl⟩)
  · have hw1 := rf_ltN hx (nl 4) (by omega) (by omega) hw1
    refine g_aload_n (v := ad 0) cx dX3_look_5 rfl ?_
    refine g_get (v := .ref (ad 5)) cx fk_X3_24 dX3_look_6 0 rfl rfl ?_
    refine g_iload_n (v := x) cx dX3_look_9 rfl ?_
    refine g_iconst (v := 4) cx dX3_look_10 (by decide) ?_
    refine g_isub cx dX3_look_11 ?_
    refine g_iald cx dX3_look_12 5 (w - 4) rfl (rf_sub hx (nl 4) (by omega)) (by omega) (by first | decide | omega) ?_
    exact hret _ _ _ _ dX3_look_13 (rfl) (⟨by rw [rLook]; simp only [hw1, not_true_eq_false, not_false_eq_true, and_true, true_and, and_false, false_and, or_true, true_or, or_false, false_or, if_true, if_false], rfl⟩)
def rm_X3_learn : Room := { frames := 1, cells := 0, slots := 0, locals := 23 }
set_option maxRecDepth 100000 in
set_option maxHeartbeats 4000000 in
theorem c_X3_learn (V : VT) (ad : Nat → Nat) (R : S2) (b : Int32) (n : Nat) (hn : R 5 0 = nI n) (hn6 : n ≤ 6) : CV V yX3_learn cX3_learn 3 rm_X3_learn [.ref (ad 0), .int b] (wRing V ad R) (fun w_ => w_ = wRing V ad (rLearn R b n)) := by
  refine CV_intro (by decide) (Nat.le_of_ble_eq_true rfl) (fun K cx hci hret => ?_)
  show G V K 3 0 0 (wRing V ad R) 0 [(0, .ref (ad 0)), (1, .int b)] []
  refine g_iconst (v := 0) cx dX3_learn_0 (by decide) ?_
  refine g_istore_n (lv' := [(0, .ref (ad 0)), (1, .int b), (2, .int 0)]) cx dX3_learn_1 (by decide) rfl ?_
  refine rf_dn (P := fun i1 => G V K 3 0 0 (wRing V ad (rLearn R b i1)) 2 [(0, .ref (ad 0)), (1, .int b), (2, .int (nI i1))] []) (n) (fun i1 hi1 ihi1 => ?_) ?_
  · skip
    refine g_iload_n (v := nI i1) cx dX3_learn_2 rfl ?_
    refine g_aload_n (v := ad 0) cx dX3_learn_3 rfl ?_
    refine g_get (v := .int ((rLearn R b i1) 5 0)) cx fk_X3_34 dX3_learn_4 0 rfl rfl ?_
    refine g_icmp_ge cx 39 dX3_learn_7 (by decide) (fun hw1 => absurd hw1 (rf_geMN rfl ((congrFun (rLearn_5 R b _) 0).trans hn) (by omega) (by omega) (by omega))) (fun hw1 => ?_)
    refine g_iload_n (v := b) cx dX3_learn_10 rfl ?_
    refine g_iload_n (v := nI i1) cx dX3_learn_11 rfl ?_
    refine g_ishr cx dX3_learn_12 ?_
    refine g_iconst (v := 1) cx dX3_learn_13 (by decide) ?_
    refine g_iand cx dX3_learn_14 ?_
    refine g_iconst (v := 1) cx dX3_learn_15 (by decide) ?_
    refine g_icmp_ne cx 33 dX3_learn_16 (by decide) (fun hw2 => ?_) (fun hw2 => ?_)
    · skip
      refine g_iinc (x := nI i1) (v := nI (i1 + 1)) (lv' := [(0, .ref (ad 0)), (1, .int b), (2, .int (nI (i1 + 1)))]) cx dX3_learn_33 rfl (by decide) (nI_add _ _) rfl ?_
      refine g_goto cx 2 dX3_learn_36 (by decide) ?_
      rw [rLearn_s, if_neg hw2] at ihi1
      exact ihi1
    · skip
      refine g_aload_n (v := ad 0) cx dX3_learn_19 rfl ?_
      refine g_iload_n (v := nI i1) cx dX3_learn_20 rfl ?_
      refine g_bipush (v := 8) cx dX3_learn_21 (by decide) ?_
      refine g_aload_n (v := ad 0) cx dX3_learn_23 rfl ?_
      refine g_iload_n (v := nI i1) cx dX3_learn_24 rfl ?_
      refine g_bipush (v := 7) cx dX3_learn_25 (by decide) ?_
      refine k_calli (r0 := (rLearn R b i1) 0 (i1 * 9 + 7)) (ws' := wRing V ad (rLearn R b i1)) (As := [.int (nI i1), .int 7]) (rest := [.int 8, .int (nI i1), .ref (ad 0)]) cx (c_X3_ofDrive V ad (rLearn R b i1) (nI i1) 7 (i1 * 9 + 7) (rf_add (rf_mul rfl rfl) (nl 7)) (by omega)) ml_X3_96 dX3_learn_27 [0, 1, 2, 3, 4, 5] rfl rfl [ad 0, ad 1, ad 2, ad 3, ad 4, ad 5] rfl rfl rfl 0 3 rfl rfl rfl rfl rfl (Nat.le_of_ble_eq_true rfl) ⟨Nat.le_of_ble_eq_true rfl, Nat.le_of_ble_eq_true rfl⟩ ⟨Nat.le_refl _, Nat.le_refl _⟩ ?_
      refine k_callv (ws' := wRing V ad (u2 (rLearn R b i1) 0 (i1 * 9 + 8) ((rLearn R b i1) 0 (i1 * 9 + 7)))) (As := [.int (nI i1), .int 8, .int ((rLearn R b i1) 0 (i1 * 9 + 7))]) (rest := []) cx (c_X3_putDrive V ad (rLearn R b i1) (nI i1) 8 ((rLearn R b i1) 0 (i1 * 9 + 7)) (i1 * 9 + 8) (rf_add (rf_mul rfl rfl) (nl 8)) (by omega)) ml_X3_125 dX3_learn_30 [0, 1, 2, 3, 4, 5] rfl rfl [ad 0, ad 1, ad 2, ad 3, ad 4, ad 5] rfl rfl rfl 0 3 rfl rfl rfl rfl rfl (Nat.le_of_ble_eq_true rfl) ⟨Nat.le_of_ble_eq_true rfl, Nat.le_of_ble_eq_true rfl⟩ ⟨Nat.le_refl _, Nat.le_refl _⟩ ?_
      refine g_iinc (x := nI i1) (v := nI (i1 + 1)) (lv' := [(0, .ref (ad 0)), (1, .int b), (2, .int (nI (i1 + 1)))]) cx dX3_learn_33 rfl (by decide) (nI_add _ _) rfl ?_
      refine g_goto cx 2 dX3_learn_36 (by decide) ?_
      rw [rLearn_s, if_pos hw2] at ihi1
      exact ihi1
  · skip
    refine g_iload_n (v := nI n) cx dX3_learn_2 rfl ?_
    refine g_aload_n (v := ad 0) cx dX3_learn_3 rfl ?_
    refine g_get (v := .int ((rLearn R b n) 5 0)) cx fk_X3_34 dX3_learn_4 0 rfl rfl ?_
    refine g_icmp_ge cx 39 dX3_learn_7 (by decide) (fun hw3 => ?_) (fun hw3 => absurd (rf_geMP rfl ((congrFun (rLearn_5 R b _) 0).trans hn) (by omega) (by omega) (by omega)) hw3)
    exact hret _ _ _ dX3_learn_39 (rfl)
def rm_X3_countMiss : Room := { frames := 1, cells := 0, slots := 0, locals := 23 }
set_option maxRecDepth 100000 in
set_option maxHeartbeats 4000000 in
theorem c_X3_countMiss (V : VT) (ad : Nat → Nat) (R : S2) (x : Int32) (d : Nat) (hx : x = nI d) (hd : d < 6) : CV V yX3_countMiss cX3_countMiss 4 rm_X3_countMiss [.ref (ad 0), .int x] (wRing V ad R) (fun w_ => w_ = wRing V ad (rMiss R d)) := by
  refine CV_intro (by decide) (Nat.le_of_ble_eq_true rfl) (fun K cx hci hret => ?_)
  show G V K 4 0 0 (wRing V ad R) 0 [(0, .ref (ad 0)), (1, .int x)] []
  refine g_aload_n (v := ad 0) cx dX3_countMiss_0 rfl ?_
  refine g_iload_n (v := x) cx dX3_countMiss_1 rfl ?_
  refine g_iconst (v := 5) cx dX3_countMiss_2 (by decide) ?_
  refine k_calli (r0 := R 0 (d * 9 + 5)) (ws' := wRing V ad R) (As := [.int x, .int 5]) (rest := []) cx (c_X3_ofDrive V ad R x 5 (d * 9 + 5) (rf_add (rf_mul hx rfl) (nl 5)) (by omega)) ml_X3_96 dX3_countMiss_3 [0, 1, 2, 3, 4, 5] rfl rfl [ad 0, ad 1, ad 2, ad 3, ad 4, ad 5] rfl rfl rfl 0 3 rfl rfl rfl rfl rfl (Nat.le_of_ble_eq_true rfl) ⟨Nat.le_of_ble_eq_true rfl, Nat.le_of_ble_eq_true rfl⟩ ⟨Nat.le_refl _, Nat.le_refl _⟩ ?_
  refine g_iconst (v := 1) cx dX3_countMiss_6 (by decide) ?_
  refine g_iadd cx dX3_countMiss_7 ?_
  refine g_istore_n (lv' := [(0, .ref (ad 0)), (1, .int x), (2, .int ((R 0 (d * 9 + 5)) + 1))]) cx dX3_countMiss_8 (by decide) rfl ?_
  refine g_aload_n (v := ad 0) cx dX3_countMiss_9 rfl ?_
  refine g_iload_n (v := x) cx dX3_countMiss_10 rfl ?_
  refine g_iconst (v := 5) cx dX3_countMiss_11 (by decide) ?_
  refine g_iload_n (v := (R 0 (d * 9 + 5)) + 1) cx dX3_countMiss_12 rfl ?_
  refine k_callv (ws' := wRing V ad (u2 R 0 (d * 9 + 5) ((R 0 (d * 9 + 5)) + 1))) (As := [.int x, .int 5, .int ((R 0 (d * 9 + 5)) + 1)]) (rest := []) cx (c_X3_putDrive V ad R x 5 ((R 0 (d * 9 + 5)) + 1) (d * 9 + 5) (rf_add (rf_mul hx rfl) (nl 5)) (by omega)) ml_X3_125 dX3_countMiss_13 [0, 1, 2, 3, 4, 5] rfl rfl [ad 0, ad 1, ad 2, ad 3, ad 4, ad 5] rfl rfl rfl 0 3 rfl rfl rfl rfl rfl (Nat.le_of_ble_eq_true rfl) ⟨Nat.le_of_ble_eq_true rfl, Nat.le_of_ble_eq_true rfl⟩ ⟨Nat.le_refl _, Nat.le_refl _⟩ ?_
  refine g_iload_n (v := (R 0 (d * 9 + 5)) + 1) cx dX3_countMiss_16 rfl ?_
  refine g_aload_n (v := ad 0) cx dX3_countMiss_17 rfl ?_
  refine g_get (v := .int (R 5 2)) cx fk_X3_42 dX3_countMiss_18 0 rfl rfl ?_
  refine g_icmp_lt cx 62 dX3_countMiss_21 (by decide) (fun hw1 => ?_) (fun hw1 => ?_)
  · skip
    exact hret _ _ _ dX3_countMiss_62 (by rw [rMiss]; simp only [rM1, hw1, not_true_eq_false, not_false_eq_true, and_true, true_and, and_false, false_and, or_true, true_or, or_false, false_or, if_true, if_false])
  · skip
    refine g_aload_n (v := ad 0) cx dX3_countMiss_24 rfl ?_
    refine g_iload_n (v := x) cx dX3_countMiss_25 rfl ?_
    refine k_calli (r0 := bI ((u2 R 0 (d * 9 + 5) ((R 0 (d * 9 + 5)) + 1)) 0 (d * 9 + 6) = 1)) (ws' := wRing V ad (u2 R 0 (d * 9 + 5) ((R 0 (d * 9 + 5)) + 1))) (As := [.int x]) (rest := []) cx (c_X3_isSafe V ad (u2 R 0 (d * 9 + 5) ((R 0 (d * 9 + 5)) + 1)) x (d * 9 + 6) (rf_add (rf_mul hx rfl) rfl) (by omega)) ml_X3_149 dX3_countMiss_26 [0, 1, 2, 3, 4, 5] rfl rfl [ad 0, ad 1, ad 2, ad 3, ad 4, ad 5] rfl rfl rfl 0 3 rfl rfl rfl rfl rfl (Nat.le_of_ble_eq_true rfl) ⟨Nat.le_of_ble_eq_true rfl, Nat.le_of_ble_eq_true rfl⟩ ⟨Nat.le_refl _, Nat.le_refl _⟩ ?_
    refine g_if_ne_b cx 62 dX3_countMiss_29 (by decide) (fun hw2 => ?_) (fun hw2 => ?_)
    · skip
      exact hret _ _ _ dX3_countMiss_62 (by rw [rMiss]; simp only [rM1, hw1, hw2, not_true_eq_false, not_false_eq_true, and_true, true_and, and_false, false_and, or_true, true_or, or_false, false_or, if_true, if_false])
    · skip
      refine g_aload_n (v := ad 0) cx dX3_countMiss_32 rfl ?_
      refine g_iload_n (v := x) cx dX3_countMiss_33 rfl ?_
      refine g_bipush (v := 6) cx dX3_countMiss_34 (by decide) ?_
      refine g_iconst (v := 1) cx dX3_countMiss_36 (by decide) ?_
      refine k_callv (ws' := wRing V ad (u2 (u2 R 0 (d * 9 + 5) ((R 0 (d * 9 + 5)) + 1)) 0 (d * 9 + 6) 1)) (As := [.int x, .int 6, .int 1]) (rest := []) cx (c_X3_putDrive V ad (u2 R 0 (d * 9 + 5) ((R 0 (d * 9 + 5)) + 1)) x 6 1 (d * 9 + 6) (rf_add (rf_mul hx rfl) (nl 6)) (by omega)) ml_X3_125 dX3_countMiss_37 [0, 1, 2, 3, 4, 5] rfl rfl [ad 0, ad 1, ad 2, ad 3, ad 4, ad 5] rfl rfl rfl 0 3 rfl rfl rfl rfl rfl (Nat.le_of_ble_eq_true rfl) ⟨Nat.le_of_ble_eq_true rfl, Nat.le_of_ble_eq_true rfl⟩ ⟨Nat.le_refl _, Nat.le_refl _⟩ ?_
      refine g_iconst (v := 0) cx dX3_countMiss_40 (by decide) ?_
      refine g_istore_n (lv' := [(0, .ref (ad 0)), (1, .int x), (2, .int ((R 0 (d * 9 + 5)) + 1)), (3, .int 0)]) cx dX3_countMiss_41 (by decide) rfl ?_
      refine g_lvk (lv' := [(0, .ref (ad 0)), (1, .int x), (3, .int 0)]) [0, 1, 3] rfl ?_
      refine rf_dn (P := fun i1 => G V K 4 0 0 (wRing V ad (rMz R d i1)) 42 [(0, .ref (ad 0)), (1, .int x), (3, .int (nI i1))] []) (4) (fun i1 hi1 ihi1 => ?_) ?_
      · skip
        have hi4 : i1 < 4 := hi1
        refine g_iload_n (v := nI i1) cx dX3_countMiss_42 rfl ?_
        refine g_iconst (v := 4) cx dX3_countMiss_43 (by decide) ?_
        refine g_icmp_ge cx 62 dX3_countMiss_44 (by decide) (fun hw3 => absurd hw3 (rf_geMN rfl (nl 4) (by omega) (by omega) (by omega))) (fun hw3 => ?_)
        refine g_aload_n (v := ad 0) cx dX3_countMiss_47 rfl ?_
        refine g_iload_n (v := x) cx dX3_countMiss_48 rfl ?_
        refine g_iconst (v := 1) cx dX3_countMiss_49 (by decide) ?_
        refine g_iload_n (v := nI i1) cx dX3_countMiss_50 rfl ?_
        refine g_iadd cx dX3_countMiss_51 ?_
        refine g_iconst (v := 0) cx dX3_countMiss_52 (by decide) ?_
        refine k_callv (ws' := wRing V ad (u2 (rMz R d i1) 0 (d * 9 + (1 + i1)) 0)) (As := [.int x, .int (1 + (nI i1)), .int 0]) (rest := []) cx (c_X3_putDrive V ad (rMz R d i1) x (1 + (nI i1)) 0 (d * 9 + (1 + i1)) (rf_add (rf_mul hx rfl) (rf_add (nl 1) rfl)) (by omega)) ml_X3_125 dX3_countMiss_53 [0, 1, 2, 3, 4, 5] rfl rfl [ad 0, ad 1, ad 2, ad 3, ad 4, ad 5] rfl rfl rfl 0 3 rfl rfl rfl rfl rfl (Nat.le_of_ble_eq_true rfl) ⟨Nat.le_of_ble_eq_true rfl, Nat.le_of_ble_eq_true rfl⟩ ⟨Nat.le_refl _, Nat.le_refl _⟩ ?_
        refine g_iinc (x := nI i1) (v := nI (i1 + 1)) (lv' := [(0, .ref (ad 0)), (1, .int x), (3, .int (nI (i1 + 1)))]) cx dX3_countMiss_56 rfl (by decide) (nI_add _ _) rfl ?_
        refine g_goto cx 42 dX3_countMiss_59 (by decide) ?_
        exact ihi1
      · skip
        refine g_iload_n (v := nI 4) cx dX3_countMiss_42 rfl ?_
        refine g_iconst (v := 4) cx dX3_countMiss_43 (by decide) ?_
        refine g_icmp_ge cx 62 dX3_countMiss_44 (by decide) (fun hw4 => ?_) (fun hw4 => absurd (rf_geMP rfl (nl 4) (by omega) (by omega) (by omega)) hw4)
        exact hret _ _ _ dX3_countMiss_62 (by rw [rMiss]; simp only [rM1, hw1, hw2, not_true_eq_false, not_false_eq_true, and_true, true_and, and_false, false_and, or_true, true_or, or_false, false_or, if_true, if_false])
