def rm_X8_resets_bad : Room := { frames := 1, cells := 0, slots := 0, locals := 21 }
set_option maxRecDepth 100000 in
set_option maxHeartbeats 4000000 in
theorem c_X8_resets_bad (V : VT) (ad : Nat → Nat → Nat) (X0 X1 X2 X3 X4 : S2) (Hs : Nat → S2) (L : Nat → Int32) (z : Nat) (b c d u lt sv : Int32) (A B : S2) (x s : Nat) (kp : Nat → Int32) (U Y : S2) (n o m k : Nat) (hC : okC X0 X3 X4 Hs z x s n o m k U) (l : Int32) (hb : ¬ (¬ l < 0 ∧ ¬ X0 5 0 ≤ l)) : CI V yX8_resets cX8_resets 3 .int rm_X8_resets_bad [.ref (ad 12 6), .int l] ((List.flatten [wMain ad, wRing V (ad 0) X0, wRing V (ad 1) X1, wRing V (ad 2) X2, wTx V (ad 11) L (nI z) b c d u, wRd (ad 12 0) (ad 11 0) lt, wSd (ad 12 1) (ad 13 0) (ad 14 0) sv, wCopy V (ad 13) A, wCopy V (ad 14) B, wHi (ad 12 2) (ad 12 3) (nI x) (nI s), wRs V (ad 12 3) 6 (fun j_ => ad (5 + j_) 0), wRing V (ad 5) (Hs 0), wRing V (ad 6) (Hs 1), wRing V (ad 7) (Hs 2), wRing V (ad 8) (Hs 3), wRing V (ad 9) (Hs 4), wRing V (ad 10) (Hs 5), wRs V (ad 12 4) 2 (fun j_ => ad (3 + j_) 0), wRing V (ad 3) X3, wRing V (ad 4) X4, wKz V (ad 12 5) kp, wSight V (ad 15) U, wSusp V (ad 16) Y])) (fun r_ w_ => r_ = (-1) ∧ w_ = (List.flatten [wMain ad, wRing V (ad 0) X0, wRing V (ad 1) X1, wRing V (ad 2) X2, wTx V (ad 11) L (nI z) b c d u, wRd (ad 12 0) (ad 11 0) lt, wSd (ad 12 1) (ad 13 0) (ad 14 0) sv, wCopy V (ad 13) A, wCopy V (ad 14) B, wHi (ad 12 2) (ad 12 3) (nI x) (nI s), wRs V (ad 12 3) 6 (fun j_ => ad (5 + j_) 0), wRing V (ad 5) (Hs 0), wRing V (ad 6) (Hs 1), wRing V (ad 7) (Hs 2), wRing V (ad 8) (Hs 3), wRing V (ad 9) (Hs 4), wRing V (ad 10) (Hs 5), wRs V (ad 12 4) 2 (fun j_ => ad (3 + j_) 0), wRing V (ad 3) X3, wRing V (ad 4) X4, wKz V (ad 12 5) kp, wSight V (ad 15) U, wSusp V (ad 16) Y])) := by
  refine CI_intro (by decide) (Nat.le_of_ble_eq_true rfl) (fun K cx hret => ?_)
  show G V K 3 0 0 ((List.flatten [wMain ad, wRing V (ad 0) X0, wRing V (ad 1) X1, wRing V (ad 2) X2, wTx V (ad 11) L (nI z) b c d u, wRd (ad 12 0) (ad 11 0) lt, wSd (ad 12 1) (ad 13 0) (ad 14 0) sv, wCopy V (ad 13) A, wCopy V (ad 14) B, wHi (ad 12 2) (ad 12 3) (nI x) (nI s), wRs V (ad 12 3) 6 (fun j_ => ad (5 + j_) 0), wRing V (ad 5) (Hs 0), wRing V (ad 6) (Hs 1), wRing V (ad 7) (Hs 2), wRing V (ad 8) (Hs 3), wRing V (ad 9) (Hs 4), wRing V (ad 10) (Hs 5), wRs V (ad 12 4) 2 (fun j_ => ad (3 + j_) 0), wRing V (ad 3) X3, wRing V (ad 4) X4, wKz V (ad 12 5) kp, wSight V (ad 15) U, wSusp V (ad 16) Y])) 0 [(0, .ref (ad 12 6)), (1, .int l)] []
  obtain ⟨hz, hx, hs, hn, hn6, hn1, ho, ho4, hm, hm7, hat, hbR, hbH, hbI, hk, hk6, hU⟩ := hC
  refine g_aload_n (v := ad 12 6) cx dX8_resets_0 rfl ?_
  refine b_get (v := .ref (ad 0 0)) cx fk_X8_10 dX8_resets_1 0 0 rfl rfl rfl ?_
  refine g_iload_n (v := l) cx dX8_resets_4 rfl ?_
  refine b_calli (r0 := bI (¬ l < 0 ∧ ¬ X0 5 0 ≤ l)) (Ws' := [wMain ad, wRing V (ad 0) X0, wRing V (ad 1) X1, wRing V (ad 2) X2, wTx V (ad 11) L (nI z) b c d u, wRd (ad 12 0) (ad 11 0) lt, wSd (ad 12 1) (ad 13 0) (ad 14 0) sv, wCopy V (ad 13) A, wCopy V (ad 14) B, wHi (ad 12 2) (ad 12 3) (nI x) (nI s), wRs V (ad 12 3) 6 (fun j_ => ad (5 + j_) 0), wRing V (ad 5) (Hs 0), wRing V (ad 6) (Hs 1), wRing V (ad 7) (Hs 2), wRing V (ad 8) (Hs 3), wRing V (ad 9) (Hs 4), wRing V (ad 10) (Hs 5), wRs V (ad 12 4) 2 (fun j_ => ad (3 + j_) 0), wRing V (ad 3) X3, wRing V (ad 4) X4, wKz V (ad 12 5) kp, wSight V (ad 15) U, wSusp V (ad 16) Y]) (wcs := [wRing V (ad 0) X0]) (wos := [wRing V (ad 0) X0]) (As := [.int l]) (rest := []) cx (c_X3_hasDrive V (ad 0) X0 l) ml_X8_133 dX8_resets_5 [1] rfl rfl (List.append_nil _) (List.append_nil _) [[ad 0 0, ad 0 1, ad 0 2, ad 0 3, ad 0 4, ad 0 5]] rfl rfl rfl 0 0 3 rfl rfl rfl rfl rfl rfl (Nat.le_of_ble_eq_true rfl) ⟨Nat.le_of_ble_eq_true rfl, Nat.le_of_ble_eq_true rfl⟩ ⟨Nat.le_refl _, Nat.le_refl _⟩ ?_
  refine g_if_ne_b cx 13 dX8_resets_8 (by decide) (fun hw1 => absurd hw1 (hb)) (fun hw1 => ?_)
  refine g_iconst (v := (-1)) cx dX8_resets_11 (by decide) ?_
  exact hret _ _ _ _ dX8_resets_12 (rfl) ⟨rfl, rfl⟩
def rm_X8_resets_state : Room := { frames := 1, cells := 0, slots := 0, locals := 22 }
set_option maxRecDepth 100000 in
set_option maxHeartbeats 4000000 in
theorem c_X8_resets_state (V : VT) (ad : Nat → Nat → Nat) (X0 X1 X2 X3 X4 : S2) (Hs : Nat → S2) (L : Nat → Int32) (z : Nat) (b c d u lt sv : Int32) (A B : S2) (x s : Nat) (kp : Nat → Int32) (U Y : S2) (n o m k : Nat) (hC : okC X0 X3 X4 Hs z x s n o m k U) (l : Int32) (q : Nat) (hl : l = nI q) (hq : q < n) (h1 : ¬ X0 0 (q * 9 + 6) = 1) (h2 : X0 0 (q * 9 + 5) = 0) : CI V yX8_resets cX8_resets 3 .int rm_X8_resets_state [.ref (ad 12 6), .int l] ((List.flatten [wMain ad, wRing V (ad 0) X0, wRing V (ad 1) X1, wRing V (ad 2) X2, wTx V (ad 11) L (nI z) b c d u, wRd (ad 12 0) (ad 11 0) lt, wSd (ad 12 1) (ad 13 0) (ad 14 0) sv, wCopy V (ad 13) A, wCopy V (ad 14) B, wHi (ad 12 2) (ad 12 3) (nI x) (nI s), wRs V (ad 12 3) 6 (fun j_ => ad (5 + j_) 0), wRing V (ad 5) (Hs 0), wRing V (ad 6) (Hs 1), wRing V (ad 7) (Hs 2), wRing V (ad 8) (Hs 3), wRing V (ad 9) (Hs 4), wRing V (ad 10) (Hs 5), wRs V (ad 12 4) 2 (fun j_ => ad (3 + j_) 0), wRing V (ad 3) X3, wRing V (ad 4) X4, wKz V (ad 12 5) kp, wSight V (ad 15) U, wSusp V (ad 16) Y])) (fun r_ w_ => r_ = (-2) ∧ w_ = (List.flatten [wMain ad, wRing V (ad 0) X0, wRing V (ad 1) X1, wRing V (ad 2) X2, wTx V (ad 11) L (nI z) b c d u, wRd (ad 12 0) (ad 11 0) lt, wSd (ad 12 1) (ad 13 0) (ad 14 0) sv, wCopy V (ad 13) A, wCopy V (ad 14) B, wHi (ad 12 2) (ad 12 3) (nI x) (nI s), wRs V (ad 12 3) 6 (fun j_ => ad (5 + j_) 0), wRing V (ad 5) (Hs 0), wRing V (ad 6) (Hs 1), wRing V (ad 7) (Hs 2), wRing V (ad 8) (Hs 3), wRing V (ad 9) (Hs 4), wRing V (ad 10) (Hs 5), wRs V (ad 12 4) 2 (fun j_ => ad (3 + j_) 0), wRing V (ad 3) X3, wRing V (ad 4) X4, wKz V (ad 12 5) kp, wSight V (ad 15) U, wSusp V (ad 16) Y])) := by
  refine CI_intro (by decide) (Nat.le_of_ble_eq_true rfl) (fun K cx hret => ?_)
  show G V K 3 0 0 ((List.flatten [wMain ad, wRing V (ad 0) X0, wRing V (ad 1) X1, wRing V (ad 2) X2, wTx V (ad 11) L (nI z) b c d u, wRd (ad 12 0) (ad 11 0) lt, wSd (ad 12 1) (ad 13 0) (ad 14 0) sv, wCopy V (ad 13) A, wCopy V (ad 14) B, wHi (ad 12 2) (ad 12 3) (nI x) (nI s), wRs V (ad 12 3) 6 (fun j_ => ad (5 + j_) 0), wRing V (ad 5) (Hs 0), wRing V (ad 6) (Hs 1), wRing V (ad 7) (Hs 2), wRing V (ad 8) (Hs 3), wRing V (ad 9) (Hs 4), wRing V (ad 10) (Hs 5), wRs V (ad 12 4) 2 (fun j_ => ad (3 + j_) 0), wRing V (ad 3) X3, wRing V (ad 4) X4, wKz V (ad 12 5) kp, wSight V (ad 15) U, wSusp V (ad 16) Y])) 0 [(0, .ref (ad 12 6)), (1, .int l)] []
  obtain ⟨hz, hx, hs, hn, hn6, hn1, ho, ho4, hm, hm7, hat, hbR, hbH, hbI, hk, hk6, hU⟩ := hC
  refine g_aload_n (v := ad 12 6) cx dX8_resets_0 rfl ?_
  refine b_get (v := .ref (ad 0 0)) cx fk_X8_10 dX8_resets_1 0 0 rfl rfl rfl ?_
  refine g_iload_n (v := l) cx dX8_resets_4 rfl ?_
  refine b_calli (r0 := bI (¬ l < 0 ∧ ¬ X0 5 0 ≤ l)) (Ws' := [wMain ad, wRing V (ad 0) X0, wRing V (ad 1) X1, wRing V (ad 2) X2, wTx V (ad 11) L (nI z) b c d u, wRd (ad 12 0) (ad 11 0) lt, wSd (ad 12 1) (ad 13 0) (ad 14 0) sv, wCopy V (ad 13) A, wCopy V (ad 14) B, wHi (ad 12 2) (ad 12 3) (nI x) (nI s), wRs V (ad 12 3) 6 (fun j_ => ad (5 + j_) 0), wRing V (ad 5) (Hs 0), wRing V (ad 6) (Hs 1), wRing V (ad 7) (Hs 2), wRing V (ad 8) (Hs 3), wRing V (ad 9) (Hs 4), wRing V (ad 10) (Hs 5), wRs V (ad 12 4) 2 (fun j_ => ad (3 + j_) 0), wRing V (ad 3) X3, wRing V (ad 4) X4, wKz V (ad 12 5) kp, wSight V (ad 15) U, wSusp V (ad 16) Y]) (wcs := [wRing V (ad 0) X0]) (wos := [wRing V (ad 0) X0]) (As := [.int l]) (rest := []) cx (c_X3_hasDrive V (ad 0) X0 l) ml_X8_133 dX8_resets_5 [1] rfl rfl (List.append_nil _) (List.append_nil _) [[ad 0 0, ad 0 1, ad 0 2, ad 0 3, ad 0 4, ad 0 5]] rfl rfl rfl 0 0 3 rfl rfl rfl rfl rfl rfl (Nat.le_of_ble_eq_true rfl) ⟨Nat.le_of_ble_eq_true rfl, Nat.le_of_ble_eq_true rfl⟩ ⟨Nat.le_refl _, Nat.le_refl _⟩ ?_
  refine g_if_ne_b cx 13 dX8_resets_8 (by decide) (fun hw1 => ?_) (fun hw1 => absurd (⟨rf_ltMN hl (b := 0) (nl 0) (by omega) (by omega) (by omega), by rw [hn]; exact rf_leMN (a := n) rfl hl (by omega) (by omega) (by omega)⟩) hw1)
  refine g_aload_n (v := ad 12 6) cx dX8_resets_13 rfl ?_
  refine b_get (v := .ref (ad 0 0)) cx fk_X8_10 dX8_resets_14 0 0 rfl rfl rfl ?_
  refine g_iload_n (v := l) cx dX8_resets_17 rfl ?_
  refine g_iconst (v := 5) cx dX8_resets_18 (by decide) ?_
  refine b_calli (r0 := X0 0 (q * 9 + 5)) (Ws' := [wMain ad, wRing V (ad 0) X0, wRing V (ad 1) X1, wRing V (ad 2) X2, wTx V (ad 11) L (nI z) b c d u, wRd (ad 12 0) (ad 11 0) lt, wSd (ad 12 1) (ad 13 0) (ad 14 0) sv, wCopy V (ad 13) A, wCopy V (ad 14) B, wHi (ad 12 2) (ad 12 3) (nI x) (nI s), wRs V (ad 12 3) 6 (fun j_ => ad (5 + j_) 0), wRing V (ad 5) (Hs 0), wRing V (ad 6) (Hs 1), wRing V (ad 7) (Hs 2), wRing V (ad 8) (Hs 3), wRing V (ad 9) (Hs 4), wRing V (ad 10) (Hs 5), wRs V (ad 12 4) 2 (fun j_ => ad (3 + j_) 0), wRing V (ad 3) X3, wRing V (ad 4) X4, wKz V (ad 12 5) kp, wSight V (ad 15) U, wSusp V (ad 16) Y]) (wcs := [wRing V (ad 0) X0]) (wos := [wRing V (ad 0) X0]) (As := [.int l, .int 5]) (rest := []) cx (c_X3_ofDrive V (ad 0) X0 l 5 (q * 9 + 5) (rf_add (rf_mul hl rfl) (nl 5)) (by omega)) ml_X8_136 dX8_resets_19 [1] rfl rfl (List.append_nil _) (List.append_nil _) [[ad 0 0, ad 0 1, ad 0 2, ad 0 3, ad 0 4, ad 0 5]] rfl rfl rfl 0 0 3 rfl rfl rfl rfl rfl rfl (Nat.le_of_ble_eq_true rfl) ⟨Nat.le_of_ble_eq_true rfl, Nat.le_of_ble_eq_true rfl⟩ ⟨Nat.le_refl _, Nat.le_refl _⟩ ?_
  refine g_istore_n (lv' := [(0, .ref (ad 12 6)), (1, .int l), (2, .int (X0 0 (q * 9 + 5)))]) cx dX8_resets_22 (by decide) rfl ?_
  refine g_aload_n (v := ad 12 6) cx dX8_resets_23 rfl ?_
  refine b_get (v := .ref (ad 0 0)) cx fk_X8_10 dX8_resets_24 0 0 rfl rfl rfl ?_
  refine g_iload_n (v := l) cx dX8_resets_27 rfl ?_
  refine b_calli (r0 := bI (X0 0 (q * 9 + 6) = 1)) (Ws' := [wMain ad, wRing V (ad 0) X0, wRing V (ad 1) X1, wRing V (ad 2) X2, wTx V (ad 11) L (nI z) b c d u, wRd (ad 12 0) (ad 11 0) lt, wSd (ad 12 1) (ad 13 0) (ad 14 0) sv, wCopy V (ad 13) A, wCopy V (ad 14) B, wHi (ad 12 2) (ad 12 3) (nI x) (nI s), wRs V (ad 12 3) 6 (fun j_ => ad (5 + j_) 0), wRing V (ad 5) (Hs 0), wRing V (ad 6) (Hs 1), wRing V (ad 7) (Hs 2), wRing V (ad 8) (Hs 3), wRing V (ad 9) (Hs 4), wRing V (ad 10) (Hs 5), wRs V (ad 12 4) 2 (fun j_ => ad (3 + j_) 0), wRing V (ad 3) X3, wRing V (ad 4) X4, wKz V (ad 12 5) kp, wSight V (ad 15) U, wSusp V (ad 16) Y]) (wcs := [wRing V (ad 0) X0]) (wos := [wRing V (ad 0) X0]) (As := [.int l]) (rest := []) cx (c_X3_isSafe V (ad 0) X0 l (q * 9 + 6) (rf_add (rf_mul hl rfl) rfl) (by omega)) ml_X8_140 dX8_resets_28 [1] rfl rfl (List.append_nil _) (List.append_nil _) [[ad 0 0, ad 0 1, ad 0 2, ad 0 3, ad 0 4, ad 0 5]] rfl rfl rfl 0 0 3 rfl rfl rfl rfl rfl rfl (Nat.le_of_ble_eq_true rfl) ⟨Nat.le_of_ble_eq_true rfl, Nat.le_of_ble_eq_true rfl⟩ ⟨Nat.le_refl _, Nat.le_refl _⟩ ?_
  refine g_if_ne_b cx 41 dX8_resets_31 (by decide) (fun hw2 => absurd hw2 (h1)) (fun hw2 => ?_)
  refine g_iload_n (v := X0 0 (q * 9 + 5)) cx dX8_resets_34 rfl ?_
  refine g_if_ne cx 41 dX8_resets_35 (by decide) (fun hw3 => absurd (h2) hw3) (fun hw3 => ?_)
  refine g_bipush (v := (-2)) cx dX8_resets_38 (by decide) ?_
  exact hret _ _ _ _ dX8_resets_40 (rfl) ⟨rfl, rfl⟩
def rm_X8_resets_ok : Room := { frames := 3, cells := 0, slots := 0, locals := 68 }
set_option maxRecDepth 100000 in
set_option maxHeartbeats 4000000 in
theorem c_X8_resets_ok (V : VT) (ad : Nat → Nat → Nat) (X0 X1 X2 X3 X4 : S2) (Hs : Nat → S2) (L : Nat → Int32) (z : Nat) (b c d u lt sv : Int32) (A B : S2) (x s : Nat) (kp : Nat → Int32) (U Y : S2) (n o m k : Nat) (hC : okC X0 X3 X4 Hs z x s n o m k U) (l : Int32) (q : Nat) (hl : l = nI q) (hq : q < n) (h1 : X0 0 (q * 9 + 6) = 1 ∨ ¬ X0 0 (q * 9 + 5) = 0) : CI V yX8_resets cX8_resets 3 .int rm_X8_resets_ok [.ref (ad 12 6), .int l] ((List.flatten [wMain ad, wRing V (ad 0) X0, wRing V (ad 1) X1, wRing V (ad 2) X2, wTx V (ad 11) L (nI z) b c d u, wRd (ad 12 0) (ad 11 0) lt, wSd (ad 12 1) (ad 13 0) (ad 14 0) sv, wCopy V (ad 13) A, wCopy V (ad 14) B, wHi (ad 12 2) (ad 12 3) (nI x) (nI s), wRs V (ad 12 3) 6 (fun j_ => ad (5 + j_) 0), wRing V (ad 5) (Hs 0), wRing V (ad 6) (Hs 1), wRing V (ad 7) (Hs 2), wRing V (ad 8) (Hs 3), wRing V (ad 9) (Hs 4), wRing V (ad 10) (Hs 5), wRs V (ad 12 4) 2 (fun j_ => ad (3 + j_) 0), wRing V (ad 3) X3, wRing V (ad 4) X4, wKz V (ad 12 5) kp, wSight V (ad 15) U, wSusp V (ad 16) Y])) (fun r_ w_ => r_ = X0 0 (q * 9 + 5) ∧ w_ = (List.flatten [wMain ad, wRing V (ad 0) (u2 (u2 X0 0 (q * 9 + 6) 0) 0 (q * 9 + 5) 0), wRing V (ad 1) X1, wRing V (ad 2) X2, wTx V (ad 11) L (nI z) b c d u, wRd (ad 12 0) (ad 11 0) lt, wSd (ad 12 1) (ad 13 0) (ad 14 0) sv, wCopy V (ad 13) A, wCopy V (ad 14) B, wHi (ad 12 2) (ad 12 3) (nI ((x + 1) % 6)) (nI (hsz s)), wRs V (ad 12 3) 6 (fun j_ => ad (5 + j_) 0), wRing V (ad 5) ((va_up Hs x (rCopy (Hs x) X0)) 0), wRing V (ad 6) ((va_up Hs x (rCopy (Hs x) X0)) 1), wRing V (ad 7) ((va_up Hs x (rCopy (Hs x) X0)) 2), wRing V (ad 8) ((va_up Hs x (rCopy (Hs x) X0)) 3), wRing V (ad 9) ((va_up Hs x (rCopy (Hs x) X0)) 4), wRing V (ad 10) ((va_up Hs x (rCopy (Hs x) X0)) 5), wRs V (ad 12 4) 2 (fun j_ => ad (3 + j_) 0), wRing V (ad 3) X3, wRing V (ad 4) X4, wKz V (ad 12 5) kp, wSight V (ad 15) U, wSusp V (ad 16) Y])) := by
  refine CI_intro (by decide) (Nat.le_of_ble_eq_true rfl) (fun K cx hret => ?_)
  show G V K 3 0 0 ((List.flatten [wMain ad, wRing V (ad 0) X0, wRing V (ad 1) X1, wRing V (ad 2) X2, wTx V (ad 11) L (nI z) b c d u, wRd (ad 12 0) (ad 11 0) lt, wSd (ad 12 1) (ad 13 0) (ad 14 0) sv, wCopy V (ad 13) A, wCopy V (ad 14) B, wHi (ad 12 2) (ad 12 3) (nI x) (nI s), wRs V (ad 12 3) 6 (fun j_ => ad (5 + j_) 0), wRing V (ad 5) (Hs 0), wRing V (ad 6) (Hs 1), wRing V (ad 7) (Hs 2), wRing V (ad 8) (Hs 3), wRing V (ad 9) (Hs 4), wRing V (ad 10) (Hs 5), wRs V (ad 12 4) 2 (fun j_ => ad (3 + j_) 0), wRing V (ad 3) X3, wRing V (ad 4) X4, wKz V (ad 12 5) kp, wSight V (ad 15) U, wSusp V (ad 16) Y])) 0 [(0, .ref (ad 12 6)), (1, .int l)] []
  obtain ⟨hz, hx, hs, hn, hn6, hn1, ho, ho4, hm, hm7, hat, hbR, hbH, hbI, hk, hk6, hU⟩ := hC
  refine g_aload_n (v := ad 12 6) cx dX8_resets_0 rfl ?_
  refine b_get (v := .ref (ad 0 0)) cx fk_X8_10 dX8_resets_1 0 0 rfl rfl rfl ?_
  refine g_iload_n (v := l) cx dX8_resets_4 rfl ?_
  refine b_calli (r0 := bI (¬ l < 0 ∧ ¬ X0 5 0 ≤ l)) (Ws' := [wMain ad, wRing V (ad 0) X0, wRing V (ad 1) X1, wRing V (ad 2) X2, wTx V (ad 11) L (nI z) b c d u, wRd (ad 12 0) (ad 11 0) lt, wSd (ad 12 1) (ad 13 0) (ad 14 0) sv, wCopy V (ad 13) A, wCopy V (ad 14) B, wHi (ad 12 2) (ad 12 3) (nI x) (nI s), wRs V (ad 12 3) 6 (fun j_ => ad (5 + j_) 0), wRing V (ad 5) (Hs 0), wRing V (ad 6) (Hs 1), wRing V (ad 7) (Hs 2), wRing V (ad 8) (Hs 3), wRing V (ad 9) (Hs 4), wRing V (ad 10) (Hs 5), wRs V (ad 12 4) 2 (fun j_ => ad (3 + j_) 0), wRing V (ad 3) X3, wRing V (ad 4) X4, wKz V (ad 12 5) kp, wSight V (ad 15) U, wSusp V (ad 16) Y]) (wcs := [wRing V (ad 0) X0]) (wos := [wRing V (ad 0) X0]) (As := [.int l]) (rest := []) cx (c_X3_hasDrive V (ad 0) X0 l) ml_X8_133 dX8_resets_5 [1] rfl rfl (List.append_nil _) (List.append_nil _) [[ad 0 0, ad 0 1, ad 0 2, ad 0 3, ad 0 4, ad 0 5]] rfl rfl rfl 0 0 3 rfl rfl rfl rfl rfl rfl (Nat.le_of_ble_eq_true rfl) ⟨Nat.le_of_ble_eq_true rfl, Nat.le_of_ble_eq_true rfl⟩ ⟨Nat.le_refl _, Nat.le_refl _⟩ ?_
  refine g_if_ne_b cx 13 dX8_resets_8 (by decide) (fun hw1 => ?_) (fun hw1 => absurd (⟨rf_ltMN hl (b := 0) (nl 0) (by omega) (by omega) (by omega), by rw [hn]; exact rf_leMN (a := n) rfl hl (by omega) (by omega) (by omega)⟩) hw1)
  refine g_aload_n (v := ad 12 6) cx dX8_resets_13 rfl ?_
  refine b_get (v := .ref (ad 0 0)) cx fk_X8_10 dX8_resets_14 0 0 rfl rfl rfl ?_
  refine g_iload_n (v := l) cx dX8_resets_17 rfl ?_
  refine g_iconst (v := 5) cx dX8_resets_18 (by decide) ?_
  refine b_calli (r0 := X0 0 (q * 9 + 5)) (Ws' := [wMain ad, wRing V (ad 0) X0, wRing V (ad 1) X1, wRing V (ad 2) X2, wTx V (ad 11) L (nI z) b c d u, wRd (ad 12 0) (ad 11 0) lt, wSd (ad 12 1) (ad 13 0) (ad 14 0) sv, wCopy V (ad 13) A, wCopy V (ad 14) B, wHi (ad 12 2) (ad 12 3) (nI x) (nI s), wRs V (ad 12 3) 6 (fun j_ => ad (5 + j_) 0), wRing V (ad 5) (Hs 0), wRing V (ad 6) (Hs 1), wRing V (ad 7) (Hs 2), wRing V (ad 8) (Hs 3), wRing V (ad 9) (Hs 4), wRing V (ad 10) (Hs 5), wRs V (ad 12 4) 2 (fun j_ => ad (3 + j_) 0), wRing V (ad 3) X3, wRing V (ad 4) X4, wKz V (ad 12 5) kp, wSight V (ad 15) U, wSusp V (ad 16) Y]) (wcs := [wRing V (ad 0) X0]) (wos := [wRing V (ad 0) X0]) (As := [.int l, .int 5]) (rest := []) cx (c_X3_ofDrive V (ad 0) X0 l 5 (q * 9 + 5) (rf_add (rf_mul hl rfl) (nl 5)) (by omega)) ml_X8_136 dX8_resets_19 [1] rfl rfl (List.append_nil _) (List.append_nil _) [[ad 0 0, ad 0 1, ad 0 2, ad 0 3, ad 0 4, ad 0 5]] rfl rfl rfl 0 0 3 rfl rfl rfl rfl rfl rfl (Nat.le_of_ble_eq_true rfl) ⟨Nat.le_of_ble_eq_true rfl, Nat.le_of_ble_eq_true rfl⟩ ⟨Nat.le_refl _, Nat.le_refl _⟩ ?_
  refine g_istore_n (lv' := [(0, .ref (ad 12 6)), (1, .int l), (2, .int (X0 0 (q * 9 + 5)))]) cx dX8_resets_22 (by decide) rfl ?_
  refine g_aload_n (v := ad 12 6) cx dX8_resets_23 rfl ?_
  refine b_get (v := .ref (ad 0 0)) cx fk_X8_10 dX8_resets_24 0 0 rfl rfl rfl ?_
  refine g_iload_n (v := l) cx dX8_resets_27 rfl ?_
  refine b_calli (r0 := bI (X0 0 (q * 9 + 6) = 1)) (Ws' := [wMain ad, wRing V (ad 0) X0, wRing V (ad 1) X1, wRing V (ad 2) X2, wTx V (ad 11) L (nI z) b c d u, wRd (ad 12 0) (ad 11 0) lt, wSd (ad 12 1) (ad 13 0) (ad 14 0) sv, wCopy V (ad 13) A, wCopy V (ad 14) B, wHi (ad 12 2) (ad 12 3) (nI x) (nI s), wRs V (ad 12 3) 6 (fun j_ => ad (5 + j_) 0), wRing V (ad 5) (Hs 0), wRing V (ad 6) (Hs 1), wRing V (ad 7) (Hs 2), wRing V (ad 8) (Hs 3), wRing V (ad 9) (Hs 4), wRing V (ad 10) (Hs 5), wRs V (ad 12 4) 2 (fun j_ => ad (3 + j_) 0), wRing V (ad 3) X3, wRing V (ad 4) X4, wKz V (ad 12 5) kp, wSight V (ad 15) U, wSusp V (ad 16) Y]) (wcs := [wRing V (ad 0) X0]) (wos := [wRing V (ad 0) X0]) (As := [.int l]) (rest := []) cx (c_X3_isSafe V (ad 0) X0 l (q * 9 + 6) (rf_add (rf_mul hl rfl) rfl) (by omega)) ml_X8_140 dX8_resets_28 [1] rfl rfl (List.append_nil _) (List.append_nil _) [[ad 0 0, ad 0 1, ad 0 2, ad 0 3, ad 0 4, ad 0 5]] rfl rfl rfl 0 0 3 rfl rfl rfl rfl rfl rfl (Nat.le_of_ble_eq_true rfl) ⟨Nat.le_of_ble_eq_true rfl, Nat.le_of_ble_eq_true rfl⟩ ⟨Nat.le_refl _, Nat.le_refl _⟩ ?_
  refine g_if_ne_b cx 41 dX8_resets_31 (by decide) (fun hw2 => ?_) (fun hw2 => ?_)
  · skip
    refine g_aload_n (v := ad 12 6) cx dX8_resets_41 rfl ?_
    refine b_get (v := .ref (ad 12 2)) cx fk_X8_48 dX8_resets_42 0 0 rfl rfl rfl ?_
    refine g_aload_n (v := ad 12 6) cx dX8_resets_45 rfl ?_
    refine b_get (v := .ref (ad 0 0)) cx fk_X8_10 dX8_resets_46 0 0 rfl rfl rfl ?_
    refine b_callv (Ws' := [wMain ad, wRing V (ad 0) X0, wRing V (ad 1) X1, wRing V (ad 2) X2, wTx V (ad 11) L (nI z) b c d u, wRd (ad 12 0) (ad 11 0) lt, wSd (ad 12 1) (ad 13 0) (ad 14 0) sv, wCopy V (ad 13) A, wCopy V (ad 14) B, wHi (ad 12 2) (ad 12 3) (nI ((x + 1) % 6)) (nI (hsz s)), wRs V (ad 12 3) 6 (fun j_ => ad (5 + j_) 0), wRing V (ad 5) ((va_up Hs x (rCopy (Hs x) X0)) 0), wRing V (ad 6) ((va_up Hs x (rCopy (Hs x) X0)) 1), wRing V (ad 7) ((va_up Hs x (rCopy (Hs x) X0)) 2), wRing V (ad 8) ((va_up Hs x (rCopy (Hs x) X0)) 3), wRing V (ad 9) ((va_up Hs x (rCopy (Hs x) X0)) 4), wRing V (ad 10) ((va_up Hs x (rCopy (Hs x) X0)) 5), wRs V (ad 12 4) 2 (fun j_ => ad (3 + j_) 0), wRing V (ad 3) X3, wRing V (ad 4) X4, wKz V (ad 12 5) kp, wSight V (ad 15) U, wSusp V (ad 16) Y]) (wcs := [wHi (ad 12 2) (ad 12 3) (nI x) (nI s), wRs V (ad 12 3) 6 (fun j_ => ad (5 + j_) 0), wRing V (ad 5) (Hs 0), wRing V (ad 6) (Hs 1), wRing V (ad 7) (Hs 2), wRing V (ad 8) (Hs 3), wRing V (ad 9) (Hs 4), wRing V (ad 10) (Hs 5), wRing V (ad 0) X0]) (wos := [wHi (ad 12 2) (ad 12 3) (nI ((x + 1) % 6)) (nI (hsz s)), wRs V (ad 12 3) 6 (fun j_ => ad (5 + j_) 0), wRing V (ad 5) ((va_up Hs x (rCopy (Hs x) X0)) 0), wRing V (ad 6) ((va_up Hs x (rCopy (Hs x) X0)) 1), wRing V (ad 7) ((va_up Hs x (rCopy (Hs x) X0)) 2), wRing V (ad 8) ((va_up Hs x (rCopy (Hs x) X0)) 3), wRing V (ad 9) ((va_up Hs x (rCopy (Hs x) X0)) 4), wRing V (ad 10) ((va_up Hs x (rCopy (Hs x) X0)) 5), wRing V (ad 0) X0]) (As := [.ref (ad 0 0)]) (rest := []) cx (c_X1_push V (ad 12 2) (ad 12 3) (fun j => ad (5 + j)) Hs x s hx hs (ad 0) X0 hbR) ml_X8_105 dX8_resets_49 [9, 10, 11, 12, 13, 14, 15, 16, 1] rfl rfl rfl rfl [[ad 12 2], [ad 12 3], [ad 5 0, ad 5 1, ad 5 2, ad 5 3, ad 5 4, ad 5 5], [ad 6 0, ad 6 1, ad 6 2, ad 6 3, ad 6 4, ad 6 5], [ad 7 0, ad 7 1, ad 7 2, ad 7 3, ad 7 4, ad 7 5], [ad 8 0, ad 8 1, ad 8 2, ad 8 3, ad 8 4, ad 8 5], [ad 9 0, ad 9 1, ad 9 2, ad 9 3, ad 9 4, ad 9 5], [ad 10 0, ad 10 1, ad 10 2, ad 10 3, ad 10 4, ad 10 5], [ad 0 0, ad 0 1, ad 0 2, ad 0 3, ad 0 4, ad 0 5]] rfl rfl rfl 0 0 1 rfl rfl rfl rfl rfl rfl (Nat.le_of_ble_eq_true rfl) ⟨Nat.le_of_ble_eq_true rfl, Nat.le_of_ble_eq_true rfl⟩ ⟨Nat.le_refl _, Nat.le_refl _⟩ ?_
    refine g_aload_n (v := ad 12 6) cx dX8_resets_52 rfl ?_
    refine b_get (v := .ref (ad 0 0)) cx fk_X8_10 dX8_resets_53 0 0 rfl rfl rfl ?_
    refine g_iload_n (v := l) cx dX8_resets_56 rfl ?_
    refine g_bipush (v := 6) cx dX8_resets_57 (by decide) ?_
    refine g_iconst (v := 0) cx dX8_resets_59 (by decide) ?_
    refine b_callv (Ws' := [wMain ad, wRing V (ad 0) (u2 X0 0 (q * 9 + 6) 0), wRing V (ad 1) X1, wRing V (ad 2) X2, wTx V (ad 11) L (nI z) b c d u, wRd (ad 12 0) (ad 11 0) lt, wSd (ad 12 1) (ad 13 0) (ad 14 0) sv, wCopy V (ad 13) A, wCopy V (ad 14) B, wHi (ad 12 2) (ad 12 3) (nI ((x + 1) % 6)) (nI (hsz s)), wRs V (ad 12 3) 6 (fun j_ => ad (5 + j_) 0), wRing V (ad 5) ((va_up Hs x (rCopy (Hs x) X0)) 0), wRing V (ad 6) ((va_up Hs x (rCopy (Hs x) X0)) 1), wRing V (ad 7) ((va_up Hs x (rCopy (Hs x) X0)) 2), wRing V (ad 8) ((va_up Hs x (rCopy (Hs x) X0)) 3), wRing V (ad 9) ((va_up Hs x (rCopy (Hs x) X0)) 4), wRing V (ad 10) ((va_up Hs x (rCopy (Hs x) X0)) 5), wRs V (ad 12 4) 2 (fun j_ => ad (3 + j_) 0), wRing V (ad 3) X3, wRing V (ad 4) X4, wKz V (ad 12 5) kp, wSight V (ad 15) U, wSusp V (ad 16) Y]) (wcs := [wRing V (ad 0) X0]) (wos := [wRing V (ad 0) (u2 X0 0 (q * 9 + 6) 0)]) (As := [.int l, .int 6, .int 0]) (rest := []) cx (c_X3_putDrive V (ad 0) X0 l 6 0 (q * 9 + 6) (rf_add (rf_mul hl rfl) (nl 6)) (by omega)) ml_X8_143 dX8_resets_60 [1] rfl rfl (List.append_nil _) (List.append_nil _) [[ad 0 0, ad 0 1, ad 0 2, ad 0 3, ad 0 4, ad 0 5]] rfl rfl rfl 0 0 3 rfl rfl rfl rfl rfl rfl (Nat.le_of_ble_eq_true rfl) ⟨Nat.le_of_ble_eq_true rfl, Nat.le_of_ble_eq_true rfl⟩ ⟨Nat.le_refl _, Nat.le_refl _⟩ ?_
    refine g_aload_n (v := ad 12 6) cx dX8_resets_63 rfl ?_
    refine b_get (v := .ref (ad 0 0)) cx fk_X8_10 dX8_resets_64 0 0 rfl rfl rfl ?_
    refine g_iload_n (v := l) cx dX8_resets_67 rfl ?_
    refine g_iconst (v := 5) cx dX8_resets_68 (by decide) ?_
    refine g_iconst (v := 0) cx dX8_resets_69 (by decide) ?_
    refine b_callv (Ws' := [wMain ad, wRing V (ad 0) (u2 (u2 X0 0 (q * 9 + 6) 0) 0 (q * 9 + 5) 0), wRing V (ad 1) X1, wRing V (ad 2) X2, wTx V (ad 11) L (nI z) b c d u, wRd (ad 12 0) (ad 11 0) lt, wSd (ad 12 1) (ad 13 0) (ad 14 0) sv, wCopy V (ad 13) A, wCopy V (ad 14) B, wHi (ad 12 2) (ad 12 3) (nI ((x + 1) % 6)) (nI (hsz s)), wRs V (ad 12 3) 6 (fun j_ => ad (5 + j_) 0), wRing V (ad 5) ((va_up Hs x (rCopy (Hs x) X0)) 0), wRing V (ad 6) ((va_up Hs x (rCopy (Hs x) X0)) 1), wRing V (ad 7) ((va_up Hs x (rCopy (Hs x) X0)) 2), wRing V (ad 8) ((va_up Hs x (rCopy (Hs x) X0)) 3), wRing V (ad 9) ((va_up Hs x (rCopy (Hs x) X0)) 4), wRing V (ad 10) ((va_up Hs x (rCopy (Hs x) X0)) 5), wRs V (ad 12 4) 2 (fun j_ => ad (3 + j_) 0), wRing V (ad 3) X3, wRing V (ad 4) X4, wKz V (ad 12 5) kp, wSight V (ad 15) U, wSusp V (ad 16) Y]) (wcs := [wRing V (ad 0) (u2 X0 0 (q * 9 + 6) 0)]) (wos := [wRing V (ad 0) (u2 (u2 X0 0 (q * 9 + 6) 0) 0 (q * 9 + 5) 0)]) (As := [.int l, .int 5, .int 0]) (rest := []) cx (c_X3_putDrive V (ad 0) (u2 X0 0 (q * 9 + 6) 0) l 5 0 (q * 9 + 5) (rf_add (rf_mul hl rfl) (nl 5)) (by omega)) ml_X8_143 dX8_resets_70 [1] rfl rfl (List.append_nil _) (List.append_nil _) [[ad 0 0, ad 0 1, ad 0 2, ad 0 3, ad 0 4, ad 0 5]] rfl rfl rfl 0 0 3 rfl rfl rfl rfl rfl rfl (Nat.le_of_ble_eq_true rfl) ⟨Nat.le_of_ble_eq_true rfl, Nat.le_of_ble_eq_true rfl⟩ ⟨Nat.le_refl _, Nat.le_refl _⟩ ?_
    refine g_iload_n (v := X0 0 (q * 9 + 5)) cx dX8_resets_73 rfl ?_
    exact hret _ _ _ _ dX8_resets_74 (rfl) ⟨rfl, rfl⟩
  · skip
    refine g_iload_n (v := X0 0 (q * 9 + 5)) cx dX8_resets_34 rfl ?_
    refine g_if_ne cx 41 dX8_resets_35 (by decide) (fun hw3 => ?_) (fun hw3 => absurd hw3 (h1.resolve_left hw2))
    refine g_aload_n (v := ad 12 6) cx dX8_resets_41 rfl ?_
    refine b_get (v := .ref (ad 12 2)) cx fk_X8_48 dX8_resets_42 0 0 rfl rfl rfl ?_
    refine g_aload_n (v := ad 12 6) cx dX8_resets_45 rfl ?_
    refine b_get (v := .ref (ad 0 0)) cx fk_X8_10 dX8_resets_46 0 0 rfl rfl rfl ?_
    refine b_callv (Ws' := [wMain ad, wRing V (ad 0) X0, wRing V (ad 1) X1, wRing V (ad 2) X2, wTx V (ad 11) L (nI z) b c d u, wRd (ad 12 0) (ad 11 0) lt, wSd (ad 12 1) (ad 13 0) (ad 14 0) sv, wCopy V (ad 13) A, wCopy V (ad 14) B, wHi (ad 12 2) (ad 12 3) (nI ((x + 1) % 6)) (nI (hsz s)), wRs V (ad 12 3) 6 (fun j_ => ad (5 + j_) 0), wRing V (ad 5) ((va_up Hs x (rCopy (Hs x) X0)) 0), wRing V (ad 6) ((va_up Hs x (rCopy (Hs x) X0)) 1), wRing V (ad 7) ((va_up Hs x (rCopy (Hs x) X0)) 2), wRing V (ad 8) ((va_up Hs x (rCopy (Hs x) X0)) 3), wRing V (ad 9) ((va_up Hs x (rCopy (Hs x) X0)) 4), wRing V (ad 10) ((va_up Hs x (rCopy (Hs x) X0)) 5), wRs V (ad 12 4) 2 (fun j_ => ad (3 + j_) 0), wRing V (ad 3) X3, wRing V (ad 4) X4, wKz V (ad 12 5) kp, wSight V (ad 15) U, wSusp V (ad 16) Y]) (wcs := [wHi (ad 12 2) (ad 12 3) (nI x) (nI s), wRs V (ad 12 3) 6 (fun j_ => ad (5 + j_) 0), wRing V (ad 5) (Hs 0), wRing V (ad 6) (Hs 1), wRing V (ad 7) (Hs 2), wRing V (ad 8) (Hs 3), wRing V (ad 9) (Hs 4), wRing V (ad 10) (Hs 5), wRing V (ad 0) X0]) (wos := [wHi (ad 12 2) (ad 12 3) (nI ((x + 1) % 6)) (nI (hsz s)), wRs V (ad 12 3) 6 (fun j_ => ad (5 + j_) 0), wRing V (ad 5) ((va_up Hs x (rCopy (Hs x) X0)) 0), wRing V (ad 6) ((va_up Hs x (rCopy (Hs x) X0)) 1), wRing V (ad 7) ((va_up Hs x (rCopy (Hs x) X0)) 2), wRing V (ad 8) ((va_up Hs x (rCopy (Hs x) X0)) 3), wRing V (ad 9) ((va_up Hs x (rCopy (Hs x) X0)) 4), wRing V (ad 10) ((va_up Hs x (rCopy (Hs x) X0)) 5), wRing V (ad 0) X0]) (As := [.ref (ad 0 0)]) (rest := []) cx (c_X1_push V (ad 12 2) (ad 12 3) (fun j => ad (5 + j)) Hs x s hx hs (ad 0) X0 hbR) ml_X8_105 dX8_resets_49 [9, 10, 11, 12, 13, 14, 15, 16, 1] rfl rfl rfl rfl [[ad 12 2], [ad 12 3], [ad 5 0, ad 5 1, ad 5 2, ad 5 3, ad 5 4, ad 5 5], [ad 6 0, ad 6 1, ad 6 2, ad 6 3, ad 6 4, ad 6 5], [ad 7 0, ad 7 1, ad 7 2, ad 7 3, ad 7 4, ad 7 5], [ad 8 0, ad 8 1, ad 8 2, ad 8 3, ad 8 4, ad 8 5], [ad 9 0, ad 9 1, ad 9 2, ad 9 3, ad 9 4, ad 9 5], [ad 10 0, ad 10 1, ad 10 2, ad 10 3, ad 10 4, ad 10 5], [ad 0 0, ad 0 1, ad 0 2, ad 0 3, ad 0 4, ad 0 5]] rfl rfl rfl 0 0 1 rfl rfl rfl rfl rfl rfl (Nat.le_of_ble_eq_true rfl) ⟨Nat.le_of_ble_eq_true rfl, Nat.le_of_ble_eq_true rfl⟩ ⟨Nat.le_refl _, Nat.le_refl _⟩ ?_
    refine g_aload_n (v := ad 12 6) cx dX8_resets_52 rfl ?_
    refine b_get (v := .ref (ad 0 0)) cx fk_X8_10 dX8_resets_53 0 0 rfl rfl rfl ?_
    refine g_iload_n (v := l) cx dX8_resets_56 rfl ?_
    refine g_bipush (v := 6) cx dX8_resets_57 (by decide) ?_
    refine g_iconst (v := 0) cx dX8_resets_59 (by decide) ?_
    refine b_callv (Ws' := [wMain ad, wRing V (ad 0) (u2 X0 0 (q * 9 + 6) 0), wRing V (ad 1) X1, wRing V (ad 2) X2, wTx V (ad 11) L (nI z) b c d u, wRd (ad 12 0) (ad 11 0) lt, wSd (ad 12 1) (ad 13 0) (ad 14 0) sv, wCopy V (ad 13) A, wCopy V (ad 14) B, wHi (ad 12 2) (ad 12 3) (nI ((x + 1) % 6)) (nI (hsz s)), wRs V (ad 12 3) 6 (fun j_ => ad (5 + j_) 0), wRing V (ad 5) ((va_up Hs x (rCopy (Hs x) X0)) 0), wRing V (ad 6) ((va_up Hs x (rCopy (Hs x) X0)) 1), wRing V (ad 7) ((va_up Hs x (rCopy (Hs x) X0)) 2), wRing V (ad 8) ((va_up Hs x (rCopy (Hs x) X0)) 3), wRing V (ad 9) ((va_up Hs x (rCopy (Hs x) X0)) 4), wRing V (ad 10) ((va_up Hs x (rCopy (Hs x) X0)) 5), wRs V (ad 12 4) 2 (fun j_ => ad (3 + j_) 0), wRing V (ad 3) X3, wRing V (ad 4) X4, wKz V (ad 12 5) kp, wSight V (ad 15) U, wSusp V (ad 16) Y]) (wcs := [wRing V (ad 0) X0]) (wos := [wRing V (ad 0) (u2 X0 0 (q * 9 + 6) 0)]) (As := [.int l, .int 6, .int 0]) (rest := []) cx (c_X3_putDrive V (ad 0) X0 l 6 0 (q * 9 + 6) (rf_add (rf_mul hl rfl) (nl 6)) (by omega)) ml_X8_143 dX8_resets_60 [1] rfl rfl (List.append_nil _) (List.append_nil _) [[ad 0 0, ad 0 1, ad 0 2, ad 0 3, ad 0 4, ad 0 5]] rfl rfl rfl 0 0 3 rfl rfl rfl rfl rfl rfl (Nat.le_of_ble_eq_true rfl) ⟨Nat.le_of_ble_eq_true rfl, Nat.le_of_ble_eq_true rfl⟩ ⟨Nat.le_refl _, Nat.le_refl _⟩ ?_
    refine g_aload_n (v := ad 12 6) cx dX8_resets_63 rfl ?_
    refine b_get (v := .ref (ad 0 0)) cx fk_X8_10 dX8_resets_64 0 0 rfl rfl rfl ?_
    refine g_iload_n (v := l) cx dX8_resets_67 rfl ?_
    refine g_iconst (v := 5) cx dX8_resets_68 (by decide) ?_
    refine g_iconst (v := 0) cx dX8_resets_69 (by decide) ?_
    refine b_callv (Ws' := [wMain ad, wRing V (ad 0) (u2 (u2 X0 0 (q * 9 + 6) 0) 0 (q * 9 + 5) 0), wRing V (ad 1) X1, wRing V (ad 2) X2, wTx V (ad 11) L (nI z) b c d u, wRd (ad 12 0) (ad 11 0) lt, wSd (ad 12 1) (ad 13 0) (ad 14 0) sv, wCopy V (ad 13) A, wCopy V (ad 14) B, wHi (ad 12 2) (ad 12 3) (nI ((x + 1) % 6)) (nI (hsz s)), wRs V (ad 12 3) 6 (fun j_ => ad (5 + j_) 0), wRing V (ad 5) ((va_up Hs x (rCopy (Hs x) X0)) 0), wRing V (ad 6) ((va_up Hs x (rCopy (Hs x) X0)) 1), wRing V (ad 7) ((va_up Hs x (rCopy (Hs x) X0)) 2), wRing V (ad 8) ((va_up Hs x (rCopy (Hs x) X0)) 3), wRing V (ad 9) ((va_up Hs x (rCopy (Hs x) X0)) 4), wRing V (ad 10) ((va_up Hs x (rCopy (Hs x) X0)) 5), wRs V (ad 12 4) 2 (fun j_ => ad (3 + j_) 0), wRing V (ad 3) X3, wRing V (ad 4) X4, wKz V (ad 12 5) kp, wSight V (ad 15) U, wSusp V (ad 16) Y]) (wcs := [wRing V (ad 0) (u2 X0 0 (q * 9 + 6) 0)]) (wos := [wRing V (ad 0) (u2 (u2 X0 0 (q * 9 + 6) 0) 0 (q * 9 + 5) 0)]) (As := [.int l, .int 5, .int 0]) (rest := []) cx (c_X3_putDrive V (ad 0) (u2 X0 0 (q * 9 + 6) 0) l 5 0 (q * 9 + 5) (rf_add (rf_mul hl rfl) (nl 5)) (by omega)) ml_X8_143 dX8_resets_70 [1] rfl rfl (List.append_nil _) (List.append_nil _) [[ad 0 0, ad 0 1, ad 0 2, ad 0 3, ad 0 4, ad 0 5]] rfl rfl rfl 0 0 3 rfl rfl rfl rfl rfl rfl (Nat.le_of_ble_eq_true rfl) ⟨Nat.le_of_ble_eq_true rfl, Nat.le_of_ble_eq_true rfl⟩ ⟨Nat.le_refl _, Nat.le_refl _⟩ ?_
    refine g_iload_n (v := X0 0 (q * 9 + 5)) cx dX8_resets_73 rfl ?_
    exact hret _ _ _ _ dX8_resets_74 (rfl) ⟨rfl, rfl⟩
def rm_X8_sets_bad : Room := { frames := 1, cells := 0, slots := 0, locals := 21 }
set_option maxRecDepth 100000 in
set_option maxHeartbeats 4000000 in
theorem c_X8_sets_bad (V : VT) (ad : Nat → Nat → Nat) (X0 X1 X2 X3 X4 : S2) (Hs : Nat → S2) (L : Nat → Int32) (z : Nat) (b c d u lt sv : Int32) (A B : S2) (x s : Nat) (kp : Nat → Int32) (U Y : S2) (n o m k : Nat) (hC : okC X0 X3 X4 Hs z x s n o m k U) (l a v : Int32) (hb : ¬ ((¬ l < 0 ∧ ¬ X0 5 0 ≤ l) ∧ ¬ a < 0 ∧ ¬ 4 ≤ a ∧ ¬ v < 0 ∧ v ≤ 255)) : CI V yX8_sets cX8_sets 5 .int rm_X8_sets_bad [.ref (ad 12 6), .int l, .int a, .int v] ((List.flatten [wMain ad, wRing V (ad 0) X0, wRing V (ad 1) X1, wRing V (ad 2) X2, wTx V (ad 11) L (nI z) b c d u, wRd (ad 12 0) (ad 11 0) lt, wSd (ad 12 1) (ad 13 0) (ad 14 0) sv, wCopy V (ad 13) A, wCopy V (ad 14) B, wHi (ad 12 2) (ad 12 3) (nI x) (nI s), wRs V (ad 12 3) 6 (fun j_ => ad (5 + j_) 0), wRing V (ad 5) (Hs 0), wRing V (ad 6) (Hs 1), wRing V (ad 7) (Hs 2), wRing V (ad 8) (Hs 3), wRing V (ad 9) (Hs 4), wRing V (ad 10) (Hs 5), wRs V (ad 12 4) 2 (fun j_ => ad (3 + j_) 0), wRing V (ad 3) X3, wRing V (ad 4) X4, wKz V (ad 12 5) kp, wSight V (ad 15) U, wSusp V (ad 16) Y])) (fun r_ w_ => r_ = (-1) ∧ w_ = (List.flatten [wMain ad, wRing V (ad 0) X0, wRing V (ad 1) X1, wRing V (ad 2) X2, wTx V (ad 11) L (nI z) b c d u, wRd (ad 12 0) (ad 11 0) lt, wSd (ad 12 1) (ad 13 0) (ad 14 0) sv, wCopy V (ad 13) A, wCopy V (ad 14) B, wHi (ad 12 2) (ad 12 3) (nI x) (nI s), wRs V (ad 12 3) 6 (fun j_ => ad (5 + j_) 0), wRing V (ad 5) (Hs 0), wRing V (ad 6) (Hs 1), wRing V (ad 7) (Hs 2), wRing V (ad 8) (Hs 3), wRing V (ad 9) (Hs 4), wRing V (ad 10) (Hs 5), wRs V (ad 12 4) 2 (fun j_ => ad (3 + j_) 0), wRing V (ad 3) X3, wRing V (ad 4) X4, wKz V (ad 12 5) kp, wSight V (ad 15) U, wSusp V (ad 16) Y])) := by
  refine CI_intro (by decide) (Nat.le_of_ble_eq_true rfl) (fun K cx hret => ?_)
  show G V K 5 0 0 ((List.flatten [wMain ad, wRing V (ad 0) X0, wRing V (ad 1) X1, wRing V (ad 2) X2, wTx V (ad 11) L (nI z) b c d u, wRd (ad 12 0) (ad 11 0) lt, wSd (ad 12 1) (ad 13 0) (ad 14 0) sv, wCopy V (ad 13) A, wCopy V (ad 14) B, wHi (ad 12 2) (ad 12 3) (nI x) (nI s), wRs V (ad 12 3) 6 (fun j_ => ad (5 + j_) 0), wRing V (ad 5) (Hs 0), wRing V (ad 6) (Hs 1), wRing V (ad 7) (Hs 2), wRing V (ad 8) (Hs 3), wRing V (ad 9) (Hs 4), wRing V (ad 10) (Hs 5), wRs V (ad 12 4) 2 (fun j_ => ad (3 + j_) 0), wRing V (ad 3) X3, wRing V (ad 4) X4, wKz V (ad 12 5) kp, wSight V (ad 15) U, wSusp V (ad 16) Y])) 0 [(0, .ref (ad 12 6)), (1, .int l), (2, .int a), (3, .int v)] []
  obtain ⟨hz, hx, hs, hn, hn6, hn1, ho, ho4, hm, hm7, hat, hbR, hbH, hbI, hk, hk6, hU⟩ := hC
  refine g_aload_n (v := ad 12 6) cx dX8_sets_0 rfl ?_
  refine b_get (v := .ref (ad 0 0)) cx fk_X8_10 dX8_sets_1 0 0 rfl rfl rfl ?_
  refine g_iload_n (v := l) cx dX8_sets_4 rfl ?_
  refine b_calli (r0 := bI (¬ l < 0 ∧ ¬ X0 5 0 ≤ l)) (Ws' := [wMain ad, wRing V (ad 0) X0, wRing V (ad 1) X1, wRing V (ad 2) X2, wTx V (ad 11) L (nI z) b c d u, wRd (ad 12 0) (ad 11 0) lt, wSd (ad 12 1) (ad 13 0) (ad 14 0) sv, wCopy V (ad 13) A, wCopy V (ad 14) B, wHi (ad 12 2) (ad 12 3) (nI x) (nI s), wRs V (ad 12 3) 6 (fun j_ => ad (5 + j_) 0), wRing V (ad 5) (Hs 0), wRing V (ad 6) (Hs 1), wRing V (ad 7) (Hs 2), wRing V (ad 8) (Hs 3), wRing V (ad 9) (Hs 4), wRing V (ad 10) (Hs 5), wRs V (ad 12 4) 2 (fun j_ => ad (3 + j_) 0), wRing V (ad 3) X3, wRing V (ad 4) X4, wKz V (ad 12 5) kp, wSight V (ad 15) U, wSusp V (ad 16) Y]) (wcs := [wRing V (ad 0) X0]) (wos := [wRing V (ad 0) X0]) (As := [.int l]) (rest := []) cx (c_X3_hasDrive V (ad 0) X0 l) ml_X8_133 dX8_sets_5 [1] rfl rfl (List.append_nil _) (List.append_nil _) [[ad 0 0, ad 0 1, ad 0 2, ad 0 3, ad 0 4, ad 0 5]] rfl rfl rfl 0 0 3 rfl rfl rfl rfl rfl rfl (Nat.le_of_ble_eq_true rfl) ⟨Nat.le_of_ble_eq_true rfl, Nat.le_of_ble_eq_true rfl⟩ ⟨Nat.le_refl _, Nat.le_refl _⟩ ?_
  refine g_if_eq_b cx 31 dX8_sets_8 (by decide) (fun hw1 => ?_) (fun hw1 => ?_)
  · skip
    refine g_iconst (v := (-1)) cx dX8_sets_31 (by decide) ?_
    exact hret _ _ _ _ dX8_sets_32 (rfl) ⟨rfl, rfl⟩
  · skip
    refine g_iload_n (v := a) cx dX8_sets_11 rfl ?_
    refine g_if_lt cx 31 dX8_sets_12 (by decide) (fun hw2 => ?_) (fun hw2 => ?_)
    · skip
      refine g_iconst (v := (-1)) cx dX8_sets_31 (by decide) ?_
      exact hret _ _ _ _ dX8_sets_32 (rfl) ⟨rfl, rfl⟩
    · skip
      refine g_iload_n (v := a) cx dX8_sets_15 rfl ?_
      refine g_iconst (v := 4) cx dX8_sets_16 (by decide) ?_
      refine g_icmp_ge cx 31 dX8_sets_17 (by decide) (fun hw3 => ?_) (fun hw3 => ?_)
      · skip
        refine g_iconst (v := (-1)) cx dX8_sets_31 (by decide) ?_
        exact hret _ _ _ _ dX8_sets_32 (rfl) ⟨rfl, rfl⟩
      · skip
        refine g_iload_n (v := v) cx dX8_sets_20 rfl ?_
        refine g_if_lt cx 31 dX8_sets_21 (by decide) (fun hw4 => ?_) (fun hw4 => ?_)
        · skip
          refine g_iconst (v := (-1)) cx dX8_sets_31 (by decide) ?_
          exact hret _ _ _ _ dX8_sets_32 (rfl) ⟨rfl, rfl⟩
        · skip
          refine g_iload_n (v := v) cx dX8_sets_24 rfl ?_
          refine g_sipush (v := 255) cx dX8_sets_25 (by decide) ?_
          refine g_icmp_le cx 33 dX8_sets_28 (by decide) (fun hw5 => ?_) (fun hw5 => ?_)
          · skip
            exact absurd ⟨hw1, hw2, hw3, hw4, hw5⟩ hb
          · skip
            refine g_iconst (v := (-1)) cx dX8_sets_31 (by decide) ?_
            exact hret _ _ _ _ dX8_sets_32 (rfl) ⟨rfl, rfl⟩
def rm_X8_sets_state : Room := { frames := 1, cells := 0, slots := 0, locals := 22 }
set_option maxRecDepth 100000 in
set_option maxHeartbeats 4000000 in
theorem c_X8_sets_state (V : VT) (ad : Nat → Nat → Nat) (X0 X1 X2 X3 X4 : S2) (Hs : Nat → S2) (L : Nat → Int32) (z : Nat) (b c d u lt sv : Int32) (A B : S2) (x s : Nat) (kp : Nat → Int32) (U Y : S2) (n o m k : Nat) (hC : okC X0 X3 X4 Hs z x s n o m k U) (l a v : Int32) (q t : Nat) (hl : l = nI q) (hq : q < n) (ha : a = nI t) (ht : t < 4) (hv1 : ¬ v < 0) (hv2 : v ≤ 255) (h1 : X0 0 (q * 9 + (1 + t)) = v ∨ X0 0 (q * 9 + 6) = 1) : CI V yX8_sets cX8_sets 5 .int rm_X8_sets_state [.ref (ad 12 6), .int l, .int a, .int v] ((List.flatten [wMain ad, wRing V (ad 0) X0, wRing V (ad 1) X1, wRing V (ad 2) X2, wTx V (ad 11) L (nI z) b c d u, wRd (ad 12 0) (ad 11 0) lt, wSd (ad 12 1) (ad 13 0) (ad 14 0) sv, wCopy V (ad 13) A, wCopy V (ad 14) B, wHi (ad 12 2) (ad 12 3) (nI x) (nI s), wRs V (ad 12 3) 6 (fun j_ => ad (5 + j_) 0), wRing V (ad 5) (Hs 0), wRing V (ad 6) (Hs 1), wRing V (ad 7) (Hs 2), wRing V (ad 8) (Hs 3), wRing V (ad 9) (Hs 4), wRing V (ad 10) (Hs 5), wRs V (ad 12 4) 2 (fun j_ => ad (3 + j_) 0), wRing V (ad 3) X3, wRing V (ad 4) X4, wKz V (ad 12 5) kp, wSight V (ad 15) U, wSusp V (ad 16) Y])) (fun r_ w_ => r_ = (-2) ∧ w_ = (List.flatten [wMain ad, wRing V (ad 0) X0, wRing V (ad 1) X1, wRing V (ad 2) X2, wTx V (ad 11) L (nI z) b c d u, wRd (ad 12 0) (ad 11 0) lt, wSd (ad 12 1) (ad 13 0) (ad 14 0) sv, wCopy V (ad 13) A, wCopy V (ad 14) B, wHi (ad 12 2) (ad 12 3) (nI x) (nI s), wRs V (ad 12 3) 6 (fun j_ => ad (5 + j_) 0), wRing V (ad 5) (Hs 0), wRing V (ad 6) (Hs 1), wRing V (ad 7) (Hs 2), wRing V (ad 8) (Hs 3), wRing V (ad 9) (Hs 4), wRing V (ad 10) (Hs 5), wRs V (ad 12 4) 2 (fun j_ => ad (3 + j_) 0), wRing V (ad 3) X3, wRing V (ad 4) X4, wKz V (ad 12 5) kp, wSight V (ad 15) U, wSusp V (ad 16) Y])) := by
  refine CI_intro (by decide) (Nat.le_of_ble_eq_true rfl) (fun K cx hret => ?_)
  show G V K 5 0 0 ((List.flatten [wMain ad, wRing V (ad 0) X0, wRing V (ad 1) X1, wRing V (ad 2) X2, wTx V (ad 11) L (nI z) b c d u, wRd (ad 12 0) (ad 11 0) lt, wSd (ad 12 1) (ad 13 0) (ad 14 0) sv, wCopy V (ad 13) A, wCopy V (ad 14) B, wHi (ad 12 2) (ad 12 3) (nI x) (nI s), wRs V (ad 12 3) 6 (fun j_ => ad (5 + j_) 0), wRing V (ad 5) (Hs 0), wRing V (ad 6) (Hs 1), wRing V (ad 7) (Hs 2), wRing V (ad 8) (Hs 3), wRing V (ad 9) (Hs 4), wRing V (ad 10) (Hs 5), wRs V (ad 12 4) 2 (fun j_ => ad (3 + j_) 0), wRing V (ad 3) X3, wRing V (ad 4) X4, wKz V (ad 12 5) kp, wSight V (ad 15) U, wSusp V (ad 16) Y])) 0 [(0, .ref (ad 12 6)), (1, .int l), (2, .int a), (3, .int v)] []
  obtain ⟨hz, hx, hs, hn, hn6, hn1, ho, ho4, hm, hm7, hat, hbR, hbH, hbI, hk, hk6, hU⟩ := hC
  refine g_aload_n (v := ad 12 6) cx dX8_sets_0 rfl ?_
  refine b_get (v := .ref (ad 0 0)) cx fk_X8_10 dX8_sets_1 0 0 rfl rfl rfl ?_
  refine g_iload_n (v := l) cx dX8_sets_4 rfl ?_
  refine b_calli (r0 := bI (¬ l < 0 ∧ ¬ X0 5 0 ≤ l)) (Ws' := [wMain ad, wRing V (ad 0) X0, wRing V (ad 1) X1, wRing V (ad 2) X2, wTx V (ad 11) L (nI z) b c d u, wRd (ad 12 0) (ad 11 0) lt, wSd (ad 12 1) (ad 13 0) (ad 14 0) sv, wCopy V (ad 13) A, wCopy V (ad 14) B, wHi (ad 12 2) (ad 12 3) (nI x) (nI s), wRs V (ad 12 3) 6 (fun j_ => ad (5 + j_) 0), wRing V (ad 5) (Hs 0), wRing V (ad 6) (Hs 1), wRing V (ad 7) (Hs 2), wRing V (ad 8) (Hs 3), wRing V (ad 9) (Hs 4), wRing V (ad 10) (Hs 5), wRs V (ad 12 4) 2 (fun j_ => ad (3 + j_) 0), wRing V (ad 3) X3, wRing V (ad 4) X4, wKz V (ad 12 5) kp, wSight V (ad 15) U, wSusp V (ad 16) Y]) (wcs := [wRing V (ad 0) X0]) (wos := [wRing V (ad 0) X0]) (As := [.int l]) (rest := []) cx (c_X3_hasDrive V (ad 0) X0 l) ml_X8_133 dX8_sets_5 [1] rfl rfl (List.append_nil _) (List.append_nil _) [[ad 0 0, ad 0 1, ad 0 2, ad 0 3, ad 0 4, ad 0 5]] rfl rfl rfl 0 0 3 rfl rfl rfl rfl rfl rfl (Nat.le_of_ble_eq_true rfl) ⟨Nat.le_of_ble_eq_true rfl, Nat.le_of_ble_eq_true rfl⟩ ⟨Nat.le_refl _, Nat.le_refl _⟩ ?_
  refine g_if_eq_b cx 31 dX8_sets_8 (by decide) (fun hw1 => absurd (⟨rf_ltMN hl (b := 0) (nl 0) (by omega) (by omega) (by omega), by rw [hn]; exact rf_leMN (a := n) rfl hl (by omega) (by omega) (by omega)⟩) hw1) (fun hw1 => ?_)
  refine g_iload_n (v := a) cx dX8_sets_11 rfl ?_
  refine g_if_lt cx 31 dX8_sets_12 (by decide) (fun hw2 => absurd hw2 (rf_ltMN ha (b := 0) (nl 0) (by omega) (by omega) (by omega))) (fun hw2 => ?_)
  refine g_iload_n (v := a) cx dX8_sets_15 rfl ?_
  refine g_iconst (v := 4) cx dX8_sets_16 (by decide) ?_
  refine g_icmp_ge cx 31 dX8_sets_17 (by decide) (fun hw3 => absurd hw3 (rf_geMN ha (nl 4) (by omega) (by omega) (by omega))) (fun hw3 => ?_)
  refine g_iload_n (v := v) cx dX8_sets_20 rfl ?_
  refine g_if_lt cx 31 dX8_sets_21 (by decide) (fun hw4 => absurd hw4 (hv1)) (fun hw4 => ?_)
  refine g_iload_n (v := v) cx dX8_sets_24 rfl ?_
  refine g_sipush (v := 255) cx dX8_sets_25 (by decide) ?_
  refine g_icmp_le cx 33 dX8_sets_28 (by decide) (fun hw5 => ?_) (fun hw5 => absurd (hv2) hw5)
  refine g_aload_n (v := ad 12 6) cx dX8_sets_33 rfl ?_
  refine b_get (v := .ref (ad 0 0)) cx fk_X8_10 dX8_sets_34 0 0 rfl rfl rfl ?_
  refine g_iload_n (v := l) cx dX8_sets_37 rfl ?_
  refine g_iconst (v := 1) cx dX8_sets_38 (by decide) ?_
  refine g_iload_n (v := a) cx dX8_sets_39 rfl ?_
  refine g_iadd cx dX8_sets_40 ?_
  refine b_calli (r0 := X0 0 (q * 9 + (1 + t))) (Ws' := [wMain ad, wRing V (ad 0) X0, wRing V (ad 1) X1, wRing V (ad 2) X2, wTx V (ad 11) L (nI z) b c d u, wRd (ad 12 0) (ad 11 0) lt, wSd (ad 12 1) (ad 13 0) (ad 14 0) sv, wCopy V (ad 13) A, wCopy V (ad 14) B, wHi (ad 12 2) (ad 12 3) (nI x) (nI s), wRs V (ad 12 3) 6 (fun j_ => ad (5 + j_) 0), wRing V (ad 5) (Hs 0), wRing V (ad 6) (Hs 1), wRing V (ad 7) (Hs 2), wRing V (ad 8) (Hs 3), wRing V (ad 9) (Hs 4), wRing V (ad 10) (Hs 5), wRs V (ad 12 4) 2 (fun j_ => ad (3 + j_) 0), wRing V (ad 3) X3, wRing V (ad 4) X4, wKz V (ad 12 5) kp, wSight V (ad 15) U, wSusp V (ad 16) Y]) (wcs := [wRing V (ad 0) X0]) (wos := [wRing V (ad 0) X0]) (As := [.int l, .int (1 + a)]) (rest := []) cx (c_X3_ofDrive V (ad 0) X0 l (1 + a) (q * 9 + (1 + t)) (rf_add (rf_mul hl rfl) (rf_add (nl 1) ha)) (by omega)) ml_X8_136 dX8_sets_41 [1] rfl rfl (List.append_nil _) (List.append_nil _) [[ad 0 0, ad 0 1, ad 0 2, ad 0 3, ad 0 4, ad 0 5]] rfl rfl rfl 0 0 3 rfl rfl rfl rfl rfl rfl (Nat.le_of_ble_eq_true rfl) ⟨Nat.le_of_ble_eq_true rfl, Nat.le_of_ble_eq_true rfl⟩ ⟨Nat.le_refl _, Nat.le_refl _⟩ ?_
  refine g_istore (lv' := [(0, .ref (ad 12 6)), (1, .int l), (2, .int a), (3, .int v), (4, .int (X0 0 (q * 9 + (1 + t))))]) cx dX8_sets_44 (by decide) rfl ?_
  refine g_iload (v := X0 0 (q * 9 + (1 + t))) cx dX8_sets_46 rfl ?_
  refine g_iload_n (v := v) cx dX8_sets_48 rfl ?_
  refine g_icmp_eq cx 63 dX8_sets_49 (by decide) (fun hw6 => ?_) (fun hw6 => ?_)
  · skip
    refine g_bipush (v := (-2)) cx dX8_sets_63 (by decide) ?_
    exact hret _ _ _ _ dX8_sets_65 (rfl) ⟨rfl, rfl⟩
  · skip
    refine g_aload_n (v := ad 12 6) cx dX8_sets_52 rfl ?_
    refine b_get (v := .ref (ad 0 0)) cx fk_X8_10 dX8_sets_53 0 0 rfl rfl rfl ?_
    refine g_iload_n (v := l) cx dX8_sets_56 rfl ?_
    refine b_calli (r0 := bI (X0 0 (q * 9 + 6) = 1)) (Ws' := [wMain ad, wRing V (ad 0) X0, wRing V (ad 1) X1, wRing V (ad 2) X2, wTx V (ad 11) L (nI z) b c d u, wRd (ad 12 0) (ad 11 0) lt, wSd (ad 12 1) (ad 13 0) (ad 14 0) sv, wCopy V (ad 13) A, wCopy V (ad 14) B, wHi (ad 12 2) (ad 12 3) (nI x) (nI s), wRs V (ad 12 3) 6 (fun j_ => ad (5 + j_) 0), wRing V (ad 5) (Hs 0), wRing V (ad 6) (Hs 1), wRing V (ad 7) (Hs 2), wRing V (ad 8) (Hs 3), wRing V (ad 9) (Hs 4), wRing V (ad 10) (Hs 5), wRs V (ad 12 4) 2 (fun j_ => ad (3 + j_) 0), wRing V (ad 3) X3, wRing V (ad 4) X4, wKz V (ad 12 5) kp, wSight V (ad 15) U, wSusp V (ad 16) Y]) (wcs := [wRing V (ad 0) X0]) (wos := [wRing V (ad 0) X0]) (As := [.int l]) (rest := []) cx (c_X3_isSafe V (ad 0) X0 l (q * 9 + 6) (rf_add (rf_mul hl rfl) rfl) (by omega)) ml_X8_140 dX8_sets_57 [1] rfl rfl (List.append_nil _) (List.append_nil _) [[ad 0 0, ad 0 1, ad 0 2, ad 0 3, ad 0 4, ad 0 5]] rfl rfl rfl 0 0 3 rfl rfl rfl rfl rfl rfl (Nat.le_of_ble_eq_true rfl) ⟨Nat.le_of_ble_eq_true rfl, Nat.le_of_ble_eq_true rfl⟩ ⟨Nat.le_refl _, Nat.le_refl _⟩ ?_
    refine g_if_eq_b cx 66 dX8_sets_60 (by decide) (fun hw7 => absurd (h1.resolve_left hw6) hw7) (fun hw7 => ?_)
    refine g_bipush (v := (-2)) cx dX8_sets_63 (by decide) ?_
    exact hret _ _ _ _ dX8_sets_65 (rfl) ⟨rfl, rfl⟩
def rm_X8_sets_ok : Room := { frames := 3, cells := 0, slots := 0, locals := 68 }
set_option maxRecDepth 100000 in
set_option maxHeartbeats 4000000 in
theorem c_X8_sets_ok (V : VT) (ad : Nat → Nat → Nat) (X0 X1 X2 X3 X4 : S2) (Hs : Nat → S2) (L : Nat → Int32) (z : Nat) (b c d u lt sv : Int32) (A B : S2) (x s : Nat) (kp : Nat → Int32) (U Y : S2) (n o m k : Nat) (hC : okC X0 X3 X4 Hs z x s n o m k U) (l a v : Int32) (q t : Nat) (hl : l = nI q) (hq : q < n) (ha : a = nI t) (ht : t < 4) (hv1 : ¬ v < 0) (hv2 : v ≤ 255) (h1 : ¬ X0 0 (q * 9 + (1 + t)) = v) (h2 : ¬ X0 0 (q * 9 + 6) = 1) : CI V yX8_sets cX8_sets 5 .int rm_X8_sets_ok [.ref (ad 12 6), .int l, .int a, .int v] ((List.flatten [wMain ad, wRing V (ad 0) X0, wRing V (ad 1) X1, wRing V (ad 2) X2, wTx V (ad 11) L (nI z) b c d u, wRd (ad 12 0) (ad 11 0) lt, wSd (ad 12 1) (ad 13 0) (ad 14 0) sv, wCopy V (ad 13) A, wCopy V (ad 14) B, wHi (ad 12 2) (ad 12 3) (nI x) (nI s), wRs V (ad 12 3) 6 (fun j_ => ad (5 + j_) 0), wRing V (ad 5) (Hs 0), wRing V (ad 6) (Hs 1), wRing V (ad 7) (Hs 2), wRing V (ad 8) (Hs 3), wRing V (ad 9) (Hs 4), wRing V (ad 10) (Hs 5), wRs V (ad 12 4) 2 (fun j_ => ad (3 + j_) 0), wRing V (ad 3) X3, wRing V (ad 4) X4, wKz V (ad 12 5) kp, wSight V (ad 15) U, wSusp V (ad 16) Y])) (fun r_ w_ => r_ = X0 0 (q * 9 + (1 + t)) ∧ w_ = (List.flatten [wMain ad, wRing V (ad 0) (u2 X0 0 (q * 9 + (1 + t)) v), wRing V (ad 1) X1, wRing V (ad 2) X2, wTx V (ad 11) L (nI z) b c d u, wRd (ad 12 0) (ad 11 0) lt, wSd (ad 12 1) (ad 13 0) (ad 14 0) sv, wCopy V (ad 13) A, wCopy V (ad 14) B, wHi (ad 12 2) (ad 12 3) (nI ((x + 1) % 6)) (nI (hsz s)), wRs V (ad 12 3) 6 (fun j_ => ad (5 + j_) 0), wRing V (ad 5) ((va_up Hs x (rCopy (Hs x) X0)) 0), wRing V (ad 6) ((va_up Hs x (rCopy (Hs x) X0)) 1), wRing V (ad 7) ((va_up Hs x (rCopy (Hs x) X0)) 2), wRing V (ad 8) ((va_up Hs x (rCopy (Hs x) X0)) 3), wRing V (ad 9) ((va_up Hs x (rCopy (Hs x) X0)) 4), wRing V (ad 10) ((va_up Hs x (rCopy (Hs x) X0)) 5), wRs V (ad 12 4) 2 (fun j_ => ad (3 + j_) 0), wRing V (ad 3) X3, wRing V (ad 4) X4, wKz V (ad 12 5) kp, wSight V (ad 15) U, wSusp V (ad 16) Y])) := by
  refine CI_intro (by decide) (Nat.le_of_ble_eq_true rfl) (fun K cx hret => ?_)
  show G V K 5 0 0 ((List.flatten [wMain ad, wRing V (ad 0) X0, wRing V (ad 1) X1, wRing V (ad 2) X2, wTx V (ad 11) L (nI z) b c d u, wRd (ad 12 0) (ad 11 0) lt, wSd (ad 12 1) (ad 13 0) (ad 14 0) sv, wCopy V (ad 13) A, wCopy V (ad 14) B, wHi (ad 12 2) (ad 12 3) (nI x) (nI s), wRs V (ad 12 3) 6 (fun j_ => ad (5 + j_) 0), wRing V (ad 5) (Hs 0), wRing V (ad 6) (Hs 1), wRing V (ad 7) (Hs 2), wRing V (ad 8) (Hs 3), wRing V (ad 9) (Hs 4), wRing V (ad 10) (Hs 5), wRs V (ad 12 4) 2 (fun j_ => ad (3 + j_) 0), wRing V (ad 3) X3, wRing V (ad 4) X4, wKz V (ad 12 5) kp, wSight V (ad 15) U, wSusp V (ad 16) Y])) 0 [(0, .ref (ad 12 6)), (1, .int l), (2, .int a), (3, .int v)] []
  obtain ⟨hz, hx, hs, hn, hn6, hn1, ho, ho4, hm, hm7, hat, hbR, hbH, hbI, hk, hk6, hU⟩ := hC
  refine g_aload_n (v := ad 12 6) cx dX8_sets_0 rfl ?_
  refine b_get (v := .ref (ad 0 0)) cx fk_X8_10 dX8_sets_1 0 0 rfl rfl rfl ?_
  refine g_iload_n (v := l) cx dX8_sets_4 rfl ?_
  refine b_calli (r0 := bI (¬ l < 0 ∧ ¬ X0 5 0 ≤ l)) (Ws' := [wMain ad, wRing V (ad 0) X0, wRing V (ad 1) X1, wRing V (ad 2) X2, wTx V (ad 11) L (nI z) b c d u, wRd (ad 12 0) (ad 11 0) lt, wSd (ad 12 1) (ad 13 0) (ad 14 0) sv, wCopy V (ad 13) A, wCopy V (ad 14) B, wHi (ad 12 2) (ad 12 3) (nI x) (nI s), wRs V (ad 12 3) 6 (fun j_ => ad (5 + j_) 0), wRing V (ad 5) (Hs 0), wRing V (ad 6) (Hs 1), wRing V (ad 7) (Hs 2), wRing V (ad 8) (Hs 3), wRing V (ad 9) (Hs 4), wRing V (ad 10) (Hs 5), wRs V (ad 12 4) 2 (fun j_ => ad (3 + j_) 0), wRing V (ad 3) X3, wRing V (ad 4) X4, wKz V (ad 12 5) kp, wSight V (ad 15) U, wSusp V (ad 16) Y]) (wcs := [wRing V (ad 0) X0]) (wos := [wRing V (ad 0) X0]) (As := [.int l]) (rest := []) cx (c_X3_hasDrive V (ad 0) X0 l) ml_X8_133 dX8_sets_5 [1] rfl rfl (List.append_nil _) (List.append_nil _) [[ad 0 0, ad 0 1, ad 0 2, ad 0 3, ad 0 4, ad 0 5]] rfl rfl rfl 0 0 3 rfl rfl rfl rfl rfl rfl (Nat.le_of_ble_eq_true rfl) ⟨Nat.le_of_ble_eq_true rfl, Nat.le_of_ble_eq_true rfl⟩ ⟨Nat.le_refl _, Nat.le_refl _⟩ ?_
  refine g_if_eq_b cx 31 dX8_sets_8 (by decide) (fun hw1 => absurd (⟨rf_ltMN hl (b := 0) (nl 0) (by omega) (by omega) (by omega), by rw [hn]; exact rf_leMN (a := n) rfl hl (by omega) (by omega) (by omega)⟩) hw1) (fun hw1 => ?_)
  refine g_iload_n (v := a) cx dX8_sets_11 rfl ?_
  refine g_if_lt cx 31 dX8_sets_12 (by decide) (fun hw2 => absurd hw2 (rf_ltMN ha (b := 0) (nl 0) (by omega) (by omega) (by omega))) (fun hw2 => ?_)
  refine g_iload_n (v := a) cx dX8_sets_15 rfl ?_
  refine g_iconst (v := 4) cx dX8_sets_16 (by decide) ?_
  refine g_icmp_ge cx 31 dX8_sets_17 (by decide) (fun hw3 => absurd hw3 (rf_geMN ha (nl 4) (by omega) (by omega) (by omega))) (fun hw3 => ?_)
  refine g_iload_n (v := v) cx dX8_sets_20 rfl ?_
  refine g_if_lt cx 31 dX8_sets_21 (by decide) (fun hw4 => absurd hw4 (hv1)) (fun hw4 => ?_)
  refine g_iload_n (v := v) cx dX8_sets_24 rfl ?_
  refine g_sipush (v := 255) cx dX8_sets_25 (by decide) ?_
  refine g_icmp_le cx 33 dX8_sets_28 (by decide) (fun hw5 => ?_) (fun hw5 => absurd (hv2) hw5)
  refine g_aload_n (v := ad 12 6) cx dX8_sets_33 rfl ?_
  refine b_get (v := .ref (ad 0 0)) cx fk_X8_10 dX8_sets_34 0 0 rfl rfl rfl ?_
  refine g_iload_n (v := l) cx dX8_sets_37 rfl ?_
  refine g_iconst (v := 1) cx dX8_sets_38 (by decide) ?_
  refine g_iload_n (v := a) cx dX8_sets_39 rfl ?_
  refine g_iadd cx dX8_sets_40 ?_
  refine b_calli (r0 := X0 0 (q * 9 + (1 + t))) (Ws' := [wMain ad, wRing V (ad 0) X0, wRing V (ad 1) X1, wRing V (ad 2) X2, wTx V (ad 11) L (nI z) b c d u, wRd (ad 12 0) (ad 11 0) lt, wSd (ad 12 1) (ad 13 0) (ad 14 0) sv, wCopy V (ad 13) A, wCopy V (ad 14) B, wHi (ad 12 2) (ad 12 3) (nI x) (nI s), wRs V (ad 12 3) 6 (fun j_ => ad (5 + j_) 0), wRing V (ad 5) (Hs 0), wRing V (ad 6) (Hs 1), wRing V (ad 7) (Hs 2), wRing V (ad 8) (Hs 3), wRing V (ad 9) (Hs 4), wRing V (ad 10) (Hs 5), wRs V (ad 12 4) 2 (fun j_ => ad (3 + j_) 0), wRing V (ad 3) X3, wRing V (ad 4) X4, wKz V (ad 12 5) kp, wSight V (ad 15) U, wSusp V (ad 16) Y]) (wcs := [wRing V (ad 0) X0]) (wos := [wRing V (ad 0) X0]) (As := [.int l, .int (1 + a)]) (rest := []) cx (c_X3_ofDrive V (ad 0) X0 l (1 + a) (q * 9 + (1 + t)) (rf_add (rf_mul hl rfl) (rf_add (nl 1) ha)) (by omega)) ml_X8_136 dX8_sets_41 [1] rfl rfl (List.append_nil _) (List.append_nil _) [[ad 0 0, ad 0 1, ad 0 2, ad 0 3, ad 0 4, ad 0 5]] rfl rfl rfl 0 0 3 rfl rfl rfl rfl rfl rfl (Nat.le_of_ble_eq_true rfl) ⟨Nat.le_of_ble_eq_true rfl, Nat.le_of_ble_eq_true rfl⟩ ⟨Nat.le_refl _, Nat.le_refl _⟩ ?_
  refine g_istore (lv' := [(0, .ref (ad 12 6)), (1, .int l), (2, .int a), (3, .int v), (4, .int (X0 0 (q * 9 + (1 + t))))]) cx dX8_sets_44 (by decide) rfl ?_
  refine g_iload (v := X0 0 (q * 9 + (1 + t))) cx dX8_sets_46 rfl ?_
  refine g_iload_n (v := v) cx dX8_sets_48 rfl ?_
  refine g_icmp_eq cx 63 dX8_sets_49 (by decide) (fun hw6 => absurd hw6 (h1)) (fun hw6 => ?_)
  refine g_aload_n (v := ad 12 6) cx dX8_sets_52 rfl ?_
  refine b_get (v := .ref (ad 0 0)) cx fk_X8_10 dX8_sets_53 0 0 rfl rfl rfl ?_
  refine g_iload_n (v := l) cx dX8_sets_56 rfl ?_
  refine b_calli (r0 := bI (X0 0 (q * 9 + 6) = 1)) (Ws' := [wMain ad, wRing V (ad 0) X0, wRing V (ad 1) X1, wRing V (ad 2) X2, wTx V (ad 11) L (nI z) b c d u, wRd (ad 12 0) (ad 11 0) lt, wSd (ad 12 1) (ad 13 0) (ad 14 0) sv, wCopy V (ad 13) A, wCopy V (ad 14) B, wHi (ad 12 2) (ad 12 3) (nI x) (nI s), wRs V (ad 12 3) 6 (fun j_ => ad (5 + j_) 0), wRing V (ad 5) (Hs 0), wRing V (ad 6) (Hs 1), wRing V (ad 7) (Hs 2), wRing V (ad 8) (Hs 3), wRing V (ad 9) (Hs 4), wRing V (ad 10) (Hs 5), wRs V (ad 12 4) 2 (fun j_ => ad (3 + j_) 0), wRing V (ad 3) X3, wRing V (ad 4) X4, wKz V (ad 12 5) kp, wSight V (ad 15) U, wSusp V (ad 16) Y]) (wcs := [wRing V (ad 0) X0]) (wos := [wRing V (ad 0) X0]) (As := [.int l]) (rest := []) cx (c_X3_isSafe V (ad 0) X0 l (q * 9 + 6) (rf_add (rf_mul hl rfl) rfl) (by omega)) ml_X8_140 dX8_sets_57 [1] rfl rfl (List.append_nil _) (List.append_nil _) [[ad 0 0, ad 0 1, ad 0 2, ad 0 3, ad 0 4, ad 0 5]] rfl rfl rfl 0 0 3 rfl rfl rfl rfl rfl rfl (Nat.le_of_ble_eq_true rfl) ⟨Nat.le_of_ble_eq_true rfl, Nat.le_of_ble_eq_true rfl⟩ ⟨Nat.le_refl _, Nat.le_refl _⟩ ?_
  refine g_if_eq_b cx 66 dX8_sets_60 (by decide) (fun hw7 => ?_) (fun hw7 => absurd hw7 (h2))
  refine g_aload_n (v := ad 12 6) cx dX8_sets_66 rfl ?_
  refine b_get (v := .ref (ad 12 2)) cx fk_X8_48 dX8_sets_67 0 0 rfl rfl rfl ?_
  refine g_aload_n (v := ad 12 6) cx dX8_sets_70 rfl ?_
  refine b_get (v := .ref (ad 0 0)) cx fk_X8_10 dX8_sets_71 0 0 rfl rfl rfl ?_
  refine b_callv (Ws' := [wMain ad, wRing V (ad 0) X0, wRing V (ad 1) X1, wRing V (ad 2) X2, wTx V (ad 11) L (nI z) b c d u, wRd (ad 12 0) (ad 11 0) lt, wSd (ad 12 1) (ad 13 0) (ad 14 0) sv, wCopy V (ad 13) A, wCopy V (ad 14) B, wHi (ad 12 2) (ad 12 3) (nI ((x + 1) % 6)) (nI (hsz s)), wRs V (ad 12 3) 6 (fun j_ => ad (5 + j_) 0), wRing V (ad 5) ((va_up Hs x (rCopy (Hs x) X0)) 0), wRing V (ad 6) ((va_up Hs x (rCopy (Hs x) X0)) 1), wRing V (ad 7) ((va_up Hs x (rCopy (Hs x) X0)) 2), wRing V (ad 8) ((va_up Hs x (rCopy (Hs x) X0)) 3), wRing V (ad 9) ((va_up Hs x (rCopy (Hs x) X0)) 4), wRing V (ad 10) ((va_up Hs x (rCopy (Hs x) X0)) 5), wRs V (ad 12 4) 2 (fun j_ => ad (3 + j_) 0), wRing V (ad 3) X3, wRing V (ad 4) X4, wKz V (ad 12 5) kp, wSight V (ad 15) U, wSusp V (ad 16) Y]) (wcs := [wHi (ad 12 2) (ad 12 3) (nI x) (nI s), wRs V (ad 12 3) 6 (fun j_ => ad (5 + j_) 0), wRing V (ad 5) (Hs 0), wRing V (ad 6) (Hs 1), wRing V (ad 7) (Hs 2), wRing V (ad 8) (Hs 3), wRing V (ad 9) (Hs 4), wRing V (ad 10) (Hs 5), wRing V (ad 0) X0]) (wos := [wHi (ad 12 2) (ad 12 3) (nI ((x + 1) % 6)) (nI (hsz s)), wRs V (ad 12 3) 6 (fun j_ => ad (5 + j_) 0), wRing V (ad 5) ((va_up Hs x (rCopy (Hs x) X0)) 0), wRing V (ad 6) ((va_up Hs x (rCopy (Hs x) X0)) 1), wRing V (ad 7) ((va_up Hs x (rCopy (Hs x) X0)) 2), wRing V (ad 8) ((va_up Hs x (rCopy (Hs x) X0)) 3), wRing V (ad 9) ((va_up Hs x (rCopy (Hs x) X0)) 4), wRing V (ad 10) ((va_up Hs x (rCopy (Hs x) X0)) 5), wRing V (ad 0) X0]) (As := [.ref (ad 0 0)]) (rest := []) cx (c_X1_push V (ad 12 2) (ad 12 3) (fun j => ad (5 + j)) Hs x s hx hs (ad 0) X0 hbR) ml_X8_105 dX8_sets_74 [9, 10, 11, 12, 13, 14, 15, 16, 1] rfl rfl rfl rfl [[ad 12 2], [ad 12 3], [ad 5 0, ad 5 1, ad 5 2, ad 5 3, ad 5 4, ad 5 5], [ad 6 0, ad 6 1, ad 6 2, ad 6 3, ad 6 4, ad 6 5], [ad 7 0, ad 7 1, ad 7 2, ad 7 3, ad 7 4, ad 7 5], [ad 8 0, ad 8 1, ad 8 2, ad 8 3, ad 8 4, ad 8 5], [ad 9 0, ad 9 1, ad 9 2, ad 9 3, ad 9 4, ad 9 5], [ad 10 0, ad 10 1, ad 10 2, ad 10 3, ad 10 4, ad 10 5], [ad 0 0, ad 0 1, ad 0 2, ad 0 3, ad 0 4, ad 0 5]] rfl rfl rfl 0 0 1 rfl rfl rfl rfl rfl rfl (Nat.le_of_ble_eq_true rfl) ⟨Nat.le_of_ble_eq_true rfl, Nat.le_of_ble_eq_true rfl⟩ ⟨Nat.le_refl _, Nat.le_refl _⟩ ?_
  refine g_aload_n (v := ad 12 6) cx dX8_sets_77 rfl ?_
  refine b_get (v := .ref (ad 0 0)) cx fk_X8_10 dX8_sets_78 0 0 rfl rfl rfl ?_
  refine g_iload_n (v := l) cx dX8_sets_81 rfl ?_
  refine g_iconst (v := 1) cx dX8_sets_82 (by decide) ?_
  refine g_iload_n (v := a) cx dX8_sets_83 rfl ?_
  refine g_iadd cx dX8_sets_84 ?_
  refine g_iload_n (v := v) cx dX8_sets_85 rfl ?_
  refine b_callv (Ws' := [wMain ad, wRing V (ad 0) (u2 X0 0 (q * 9 + (1 + t)) v), wRing V (ad 1) X1, wRing V (ad 2) X2, wTx V (ad 11) L (nI z) b c d u, wRd (ad 12 0) (ad 11 0) lt, wSd (ad 12 1) (ad 13 0) (ad 14 0) sv, wCopy V (ad 13) A, wCopy V (ad 14) B, wHi (ad 12 2) (ad 12 3) (nI ((x + 1) % 6)) (nI (hsz s)), wRs V (ad 12 3) 6 (fun j_ => ad (5 + j_) 0), wRing V (ad 5) ((va_up Hs x (rCopy (Hs x) X0)) 0), wRing V (ad 6) ((va_up Hs x (rCopy (Hs x) X0)) 1), wRing V (ad 7) ((va_up Hs x (rCopy (Hs x) X0)) 2), wRing V (ad 8) ((va_up Hs x (rCopy (Hs x) X0)) 3), wRing V (ad 9) ((va_up Hs x (rCopy (Hs x) X0)) 4), wRing V (ad 10) ((va_up Hs x (rCopy (Hs x) X0)) 5), wRs V (ad 12 4) 2 (fun j_ => ad (3 + j_) 0), wRing V (ad 3) X3, wRing V (ad 4) X4, wKz V (ad 12 5) kp, wSight V (ad 15) U, wSusp V (ad 16) Y]) (wcs := [wRing V (ad 0) X0]) (wos := [wRing V (ad 0) (u2 X0 0 (q * 9 + (1 + t)) v)]) (As := [.int l, .int (1 + a), .int v]) (rest := []) cx (c_X3_putDrive V (ad 0) X0 l (1 + a) v (q * 9 + (1 + t)) (rf_add (rf_mul hl rfl) (rf_add (nl 1) ha)) (by omega)) ml_X8_143 dX8_sets_86 [1] rfl rfl (List.append_nil _) (List.append_nil _) [[ad 0 0, ad 0 1, ad 0 2, ad 0 3, ad 0 4, ad 0 5]] rfl rfl rfl 0 0 3 rfl rfl rfl rfl rfl rfl (Nat.le_of_ble_eq_true rfl) ⟨Nat.le_of_ble_eq_true rfl, Nat.le_of_ble_eq_true rfl⟩ ⟨Nat.le_refl _, Nat.le_refl _⟩ ?_
  refine g_iload (v := X0 0 (q * 9 + (1 + t))) cx dX8_sets_89 rfl ?_
  exact hret _ _ _ _ dX8_sets_91 (rfl) ⟨rfl, rfl⟩
def rm_X8_drifts_bad : Room := { frames := 1, cells := 0, slots := 0, locals := 21 }
set_option maxRecDepth 100000 in
set_option maxHeartbeats 4000000 in
theorem c_X8_drifts_bad (V : VT) (ad : Nat → Nat → Nat) (X0 X1 X2 X3 X4 : S2) (Hs : Nat → S2) (L : Nat → Int32) (z : Nat) (b c d u lt sv : Int32) (A B : S2) (x s : Nat) (kp : Nat → Int32) (U Y : S2) (n o m k : Nat) (hC : okC X0 X3 X4 Hs z x s n o m k U) (l v : Int32) (hb : ¬ ((¬ l < 0 ∧ ¬ X0 5 0 ≤ l) ∧ ¬ v < (-50) ∧ v ≤ 50)) : CI V yX8_drifts cX8_drifts 3 .int rm_X8_drifts_bad [.ref (ad 12 6), .int l, .int v] ((List.flatten [wMain ad, wRing V (ad 0) X0, wRing V (ad 1) X1, wRing V (ad 2) X2, wTx V (ad 11) L (nI z) b c d u, wRd (ad 12 0) (ad 11 0) lt, wSd (ad 12 1) (ad 13 0) (ad 14 0) sv, wCopy V (ad 13) A, wCopy V (ad 14) B, wHi (ad 12 2) (ad 12 3) (nI x) (nI s), wRs V (ad 12 3) 6 (fun j_ => ad (5 + j_) 0), wRing V (ad 5) (Hs 0), wRing V (ad 6) (Hs 1), wRing V (ad 7) (Hs 2), wRing V (ad 8) (Hs 3), wRing V (ad 9) (Hs 4), wRing V (ad 10) (Hs 5), wRs V (ad 12 4) 2 (fun j_ => ad (3 + j_) 0), wRing V (ad 3) X3, wRing V (ad 4) X4, wKz V (ad 12 5) kp, wSight V (ad 15) U, wSusp V (ad 16) Y])) (fun r_ w_ => r_ = (-1) ∧ w_ = (List.flatten [wMain ad, wRing V (ad 0) X0, wRing V (ad 1) X1, wRing V (ad 2) X2, wTx V (ad 11) L (nI z) b c d u, wRd (ad 12 0) (ad 11 0) lt, wSd (ad 12 1) (ad 13 0) (ad 14 0) sv, wCopy V (ad 13) A, wCopy V (ad 14) B, wHi (ad 12 2) (ad 12 3) (nI x) (nI s), wRs V (ad 12 3) 6 (fun j_ => ad (5 + j_) 0), wRing V (ad 5) (Hs 0), wRing V (ad 6) (Hs 1), wRing V (ad 7) (Hs 2), wRing V (ad 8) (Hs 3), wRing V (ad 9) (Hs 4), wRing V (ad 10) (Hs 5), wRs V (ad 12 4) 2 (fun j_ => ad (3 + j_) 0), wRing V (ad 3) X3, wRing V (ad 4) X4, wKz V (ad 12 5) kp, wSight V (ad 15) U, wSusp V (ad 16) Y])) := by
  refine CI_intro (by decide) (Nat.le_of_ble_eq_true rfl) (fun K cx hret => ?_)
  show G V K 3 0 0 ((List.flatten [wMain ad, wRing V (ad 0) X0, wRing V (ad 1) X1, wRing V (ad 2) X2, wTx V (ad 11) L (nI z) b c d u, wRd (ad 12 0) (ad 11 0) lt, wSd (ad 12 1) (ad 13 0) (ad 14 0) sv, wCopy V (ad 13) A, wCopy V (ad 14) B, wHi (ad 12 2) (ad 12 3) (nI x) (nI s), wRs V (ad 12 3) 6 (fun j_ => ad (5 + j_) 0), wRing V (ad 5) (Hs 0), wRing V (ad 6) (Hs 1), wRing V (ad 7) (Hs 2), wRing V (ad 8) (Hs 3), wRing V (ad 9) (Hs 4), wRing V (ad 10) (Hs 5), wRs V (ad 12 4) 2 (fun j_ => ad (3 + j_) 0), wRing V (ad 3) X3, wRing V (ad 4) X4, wKz V (ad 12 5) kp, wSight V (ad 15) U, wSusp V (ad 16) Y])) 0 [(0, .ref (ad 12 6)), (1, .int l), (2, .int v)] []
  obtain ⟨hz, hx, hs, hn, hn6, hn1, ho, ho4, hm, hm7, hat, hbR, hbH, hbI, hk, hk6, hU⟩ := hC
  refine g_aload_n (v := ad 12 6) cx dX8_drifts_0 rfl ?_
  refine b_get (v := .ref (ad 0 0)) cx fk_X8_10 dX8_drifts_1 0 0 rfl rfl rfl ?_
  refine g_iload_n (v := l) cx dX8_drifts_4 rfl ?_
  refine b_calli (r0 := bI (¬ l < 0 ∧ ¬ X0 5 0 ≤ l)) (Ws' := [wMain ad, wRing V (ad 0) X0, wRing V (ad 1) X1, wRing V (ad 2) X2, wTx V (ad 11) L (nI z) b c d u, wRd (ad 12 0) (ad 11 0) lt, wSd (ad 12 1) (ad 13 0) (ad 14 0) sv, wCopy V (ad 13) A, wCopy V (ad 14) B, wHi (ad 12 2) (ad 12 3) (nI x) (nI s), wRs V (ad 12 3) 6 (fun j_ => ad (5 + j_) 0), wRing V (ad 5) (Hs 0), wRing V (ad 6) (Hs 1), wRing V (ad 7) (Hs 2), wRing V (ad 8) (Hs 3), wRing V (ad 9) (Hs 4), wRing V (ad 10) (Hs 5), wRs V (ad 12 4) 2 (fun j_ => ad (3 + j_) 0), wRing V (ad 3) X3, wRing V (ad 4) X4, wKz V (ad 12 5) kp, wSight V (ad 15) U, wSusp V (ad 16) Y]) (wcs := [wRing V (ad 0) X0]) (wos := [wRing V (ad 0) X0]) (As := [.int l]) (rest := []) cx (c_X3_hasDrive V (ad 0) X0 l) ml_X8_133 dX8_drifts_5 [1] rfl rfl (List.append_nil _) (List.append_nil _) [[ad 0 0, ad 0 1, ad 0 2, ad 0 3, ad 0 4, ad 0 5]] rfl rfl rfl 0 0 3 rfl rfl rfl rfl rfl rfl (Nat.le_of_ble_eq_true rfl) ⟨Nat.le_of_ble_eq_true rfl, Nat.le_of_ble_eq_true rfl⟩ ⟨Nat.le_refl _, Nat.le_refl _⟩ ?_
  refine g_if_eq_b cx 23 dX8_drifts_8 (by decide) (fun hw1 => ?_) (fun hw1 => ?_)
  · skip
    refine g_iconst (v := (-1)) cx dX8_drifts_23 (by decide) ?_
    exact hret _ _ _ _ dX8_drifts_24 (rfl) ⟨rfl, rfl⟩
  · skip
    refine g_iload_n (v := v) cx dX8_drifts_11 rfl ?_
    refine g_bipush (v := (-50)) cx dX8_drifts_12 (by decide) ?_
    refine g_icmp_lt cx 23 dX8_drifts_14 (by decide) (fun hw2 => ?_) (fun hw2 => ?_)
    · skip
      refine g_iconst (v := (-1)) cx dX8_drifts_23 (by decide) ?_
      exact hret _ _ _ _ dX8_drifts_24 (rfl) ⟨rfl, rfl⟩
    · skip
      refine g_iload_n (v := v) cx dX8_drifts_17 rfl ?_
      refine g_bipush (v := 50) cx dX8_drifts_18 (by decide) ?_
      refine g_icmp_le cx 25 dX8_drifts_20 (by decide) (fun hw3 => ?_) (fun hw3 => ?_)
      · skip
        exact absurd ⟨hw1, hw2, hw3⟩ hb
      · skip
        refine g_iconst (v := (-1)) cx dX8_drifts_23 (by decide) ?_
        exact hret _ _ _ _ dX8_drifts_24 (rfl) ⟨rfl, rfl⟩
def rm_X8_drifts_state : Room := { frames := 1, cells := 0, slots := 0, locals := 22 }
set_option maxRecDepth 100000 in
set_option maxHeartbeats 4000000 in
theorem c_X8_drifts_state (V : VT) (ad : Nat → Nat → Nat) (X0 X1 X2 X3 X4 : S2) (Hs : Nat → S2) (L : Nat → Int32) (z : Nat) (b c d u lt sv : Int32) (A B : S2) (x s : Nat) (kp : Nat → Int32) (U Y : S2) (n o m k : Nat) (hC : okC X0 X3 X4 Hs z x s n o m k U) (l v : Int32) (q : Nat) (hl : l = nI q) (hq : q < n) (hv1 : ¬ v < (-50)) (hv2 : v ≤ 50) (h1 : X0 0 (q * 9 + 7) = v) : CI V yX8_drifts cX8_drifts 3 .int rm_X8_drifts_state [.ref (ad 12 6), .int l, .int v] ((List.flatten [wMain ad, wRing V (ad 0) X0, wRing V (ad 1) X1, wRing V (ad 2) X2, wTx V (ad 11) L (nI z) b c d u, wRd (ad 12 0) (ad 11 0) lt, wSd (ad 12 1) (ad 13 0) (ad 14 0) sv, wCopy V (ad 13) A, wCopy V (ad 14) B, wHi (ad 12 2) (ad 12 3) (nI x) (nI s), wRs V (ad 12 3) 6 (fun j_ => ad (5 + j_) 0), wRing V (ad 5) (Hs 0), wRing V (ad 6) (Hs 1), wRing V (ad 7) (Hs 2), wRing V (ad 8) (Hs 3), wRing V (ad 9) (Hs 4), wRing V (ad 10) (Hs 5), wRs V (ad 12 4) 2 (fun j_ => ad (3 + j_) 0), wRing V (ad 3) X3, wRing V (ad 4) X4, wKz V (ad 12 5) kp, wSight V (ad 15) U, wSusp V (ad 16) Y])) (fun r_ w_ => r_ = (-2) ∧ w_ = (List.flatten [wMain ad, wRing V (ad 0) X0, wRing V (ad 1) X1, wRing V (ad 2) X2, wTx V (ad 11) L (nI z) b c d u, wRd (ad 12 0) (ad 11 0) lt, wSd (ad 12 1) (ad 13 0) (ad 14 0) sv, wCopy V (ad 13) A, wCopy V (ad 14) B, wHi (ad 12 2) (ad 12 3) (nI x) (nI s), wRs V (ad 12 3) 6 (fun j_ => ad (5 + j_) 0), wRing V (ad 5) (Hs 0), wRing V (ad 6) (Hs 1), wRing V (ad 7) (Hs 2), wRing V (ad 8) (Hs 3), wRing V (ad 9) (Hs 4), wRing V (ad 10) (Hs 5), wRs V (ad 12 4) 2 (fun j_ => ad (3 + j_) 0), wRing V (ad 3) X3, wRing V (ad 4) X4, wKz V (ad 12 5) kp, wSight V (ad 15) U, wSusp V (ad 16) Y])) := by
  refine CI_intro (by decide) (Nat.le_of_ble_eq_true rfl) (fun K cx hret => ?_)
  show G V K 3 0 0 ((List.flatten [wMain ad, wRing V (ad 0) X0, wRing V (ad 1) X1, wRing V (ad 2) X2, wTx V (ad 11) L (nI z) b c d u, wRd (ad 12 0) (ad 11 0) lt, wSd (ad 12 1) (ad 13 0) (ad 14 0) sv, wCopy V (ad 13) A, wCopy V (ad 14) B, wHi (ad 12 2) (ad 12 3) (nI x) (nI s), wRs V (ad 12 3) 6 (fun j_ => ad (5 + j_) 0), wRing V (ad 5) (Hs 0), wRing V (ad 6) (Hs 1), wRing V (ad 7) (Hs 2), wRing V (ad 8) (Hs 3), wRing V (ad 9) (Hs 4), wRing V (ad 10) (Hs 5), wRs V (ad 12 4) 2 (fun j_ => ad (3 + j_) 0), wRing V (ad 3) X3, wRing V (ad 4) X4, wKz V (ad 12 5) kp, wSight V (ad 15) U, wSusp V (ad 16) Y])) 0 [(0, .ref (ad 12 6)), (1, .int l), (2, .int v)] []
  obtain ⟨hz, hx, hs, hn, hn6, hn1, ho, ho4, hm, hm7, hat, hbR, hbH, hbI, hk, hk6, hU⟩ := hC
  refine g_aload_n (v := ad 12 6) cx dX8_drifts_0 rfl ?_
  refine b_get (v := .ref (ad 0 0)) cx fk_X8_10 dX8_drifts_1 0 0 rfl rfl rfl ?_
  refine g_iload_n (v := l) cx dX8_drifts_4 rfl ?_
  refine b_calli (r0 := bI (¬ l < 0 ∧ ¬ X0 5 0 ≤ l)) (Ws' := [wMain ad, wRing V (ad 0) X0, wRing V (ad 1) X1, wRing V (ad 2) X2, wTx V (ad 11) L (nI z) b c d u, wRd (ad 12 0) (ad 11 0) lt, wSd (ad 12 1) (ad 13 0) (ad 14 0) sv, wCopy V (ad 13) A, wCopy V (ad 14) B, wHi (ad 12 2) (ad 12 3) (nI x) (nI s), wRs V (ad 12 3) 6 (fun j_ => ad (5 + j_) 0), wRing V (ad 5) (Hs 0), wRing V (ad 6) (Hs 1), wRing V (ad 7) (Hs 2), wRing V (ad 8) (Hs 3), wRing V (ad 9) (Hs 4), wRing V (ad 10) (Hs 5), wRs V (ad 12 4) 2 (fun j_ => ad (3 + j_) 0), wRing V (ad 3) X3, wRing V (ad 4) X4, wKz V (ad 12 5) kp, wSight V (ad 15) U, wSusp V (ad 16) Y]) (wcs := [wRing V (ad 0) X0]) (wos := [wRing V (ad 0) X0]) (As := [.int l]) (rest := []) cx (c_X3_hasDrive V (ad 0) X0 l) ml_X8_133 dX8_drifts_5 [1] rfl rfl (List.append_nil _) (List.append_nil _) [[ad 0 0, ad 0 1, ad 0 2, ad 0 3, ad 0 4, ad 0 5]] rfl rfl rfl 0 0 3 rfl rfl rfl rfl rfl rfl (Nat.le_of_ble_eq_true rfl) ⟨Nat.le_of_ble_eq_true rfl, Nat.le_of_ble_eq_true rfl⟩ ⟨Nat.le_refl _, Nat.le_refl _⟩ ?_
  refine g_if_eq_b cx 23 dX8_drifts_8 (by decide) (fun hw1 => absurd (⟨rf_ltMN hl (b := 0) (nl 0) (by omega) (by omega) (by omega), by rw [hn]; exact rf_leMN (a := n) rfl hl (by omega) (by omega) (by omega)⟩) hw1) (fun hw1 => ?_)
  refine g_iload_n (v := v) cx dX8_drifts_11 rfl ?_
  refine g_bipush (v := (-50)) cx dX8_drifts_12 (by decide) ?_
  refine g_icmp_lt cx 23 dX8_drifts_14 (by decide) (fun hw2 => absurd hw2 (hv1)) (fun hw2 => ?_)
  refine g_iload_n (v := v) cx dX8_drifts_17 rfl ?_
  refine g_bipush (v := 50) cx dX8_drifts_18 (by decide) ?_
  refine g_icmp_le cx 25 dX8_drifts_20 (by decide) (fun hw3 => ?_) (fun hw3 => absurd (hv2) hw3)
  refine g_aload_n (v := ad 12 6) cx dX8_drifts_25 rfl ?_
  refine b_get (v := .ref (ad 0 0)) cx fk_X8_10 dX8_drifts_26 0 0 rfl rfl rfl ?_
  refine g_iload_n (v := l) cx dX8_drifts_29 rfl ?_
  refine g_bipush (v := 7) cx dX8_drifts_30 (by decide) ?_
  refine b_calli (r0 := X0 0 (q * 9 + 7)) (Ws' := [wMain ad, wRing V (ad 0) X0, wRing V (ad 1) X1, wRing V (ad 2) X2, wTx V (ad 11) L (nI z) b c d u, wRd (ad 12 0) (ad 11 0) lt, wSd (ad 12 1) (ad 13 0) (ad 14 0) sv, wCopy V (ad 13) A, wCopy V (ad 14) B, wHi (ad 12 2) (ad 12 3) (nI x) (nI s), wRs V (ad 12 3) 6 (fun j_ => ad (5 + j_) 0), wRing V (ad 5) (Hs 0), wRing V (ad 6) (Hs 1), wRing V (ad 7) (Hs 2), wRing V (ad 8) (Hs 3), wRing V (ad 9) (Hs 4), wRing V (ad 10) (Hs 5), wRs V (ad 12 4) 2 (fun j_ => ad (3 + j_) 0), wRing V (ad 3) X3, wRing V (ad 4) X4, wKz V (ad 12 5) kp, wSight V (ad 15) U, wSusp V (ad 16) Y]) (wcs := [wRing V (ad 0) X0]) (wos := [wRing V (ad 0) X0]) (As := [.int l, .int 7]) (rest := []) cx (c_X3_ofDrive V (ad 0) X0 l 7 (q * 9 + 7) (rf_add (rf_mul hl rfl) (nl 7)) (by omega)) ml_X8_136 dX8_drifts_32 [1] rfl rfl (List.append_nil _) (List.append_nil _) [[ad 0 0, ad 0 1, ad 0 2, ad 0 3, ad 0 4, ad 0 5]] rfl rfl rfl 0 0 3 rfl rfl rfl rfl rfl rfl (Nat.le_of_ble_eq_true rfl) ⟨Nat.le_of_ble_eq_true rfl, Nat.le_of_ble_eq_true rfl⟩ ⟨Nat.le_refl _, Nat.le_refl _⟩ ?_
  refine g_iload_n (v := v) cx dX8_drifts_35 rfl ?_
  refine g_icmp_ne cx 42 dX8_drifts_36 (by decide) (fun hw4 => absurd (h1) hw4) (fun hw4 => ?_)
  refine g_bipush (v := (-2)) cx dX8_drifts_39 (by decide) ?_
  exact hret _ _ _ _ dX8_drifts_41 (rfl) ⟨rfl, rfl⟩
def rm_X8_drifts_ok : Room := { frames := 3, cells := 0, slots := 0, locals := 68 }
set_option maxRecDepth 100000 in
set_option maxHeartbeats 4000000 in
theorem c_X8_drifts_ok (V : VT) (ad : Nat → Nat → Nat) (X0 X1 X2 X3 X4 : S2) (Hs : Nat → S2) (L : Nat → Int32) (z : Nat) (b c d u lt sv : Int32) (A B : S2) (x s : Nat) (kp : Nat → Int32) (U Y : S2) (n o m k : Nat) (hC : okC X0 X3 X4 Hs z x s n o m k U) (l v : Int32) (q : Nat) (hl : l = nI q) (hq : q < n) (hv1 : ¬ v < (-50)) (hv2 : v ≤ 50) (h1 : ¬ X0 0 (q * 9 + 7) = v) : CI V yX8_drifts cX8_drifts 3 .int rm_X8_drifts_ok [.ref (ad 12 6), .int l, .int v] ((List.flatten [wMain ad, wRing V (ad 0) X0, wRing V (ad 1) X1, wRing V (ad 2) X2, wTx V (ad 11) L (nI z) b c d u, wRd (ad 12 0) (ad 11 0) lt, wSd (ad 12 1) (ad 13 0) (ad 14 0) sv, wCopy V (ad 13) A, wCopy V (ad 14) B, wHi (ad 12 2) (ad 12 3) (nI x) (nI s), wRs V (ad 12 3) 6 (fun j_ => ad (5 + j_) 0), wRing V (ad 5) (Hs 0), wRing V (ad 6) (Hs 1), wRing V (ad 7) (Hs 2), wRing V (ad 8) (Hs 3), wRing V (ad 9) (Hs 4), wRing V (ad 10) (Hs 5), wRs V (ad 12 4) 2 (fun j_ => ad (3 + j_) 0), wRing V (ad 3) X3, wRing V (ad 4) X4, wKz V (ad 12 5) kp, wSight V (ad 15) U, wSusp V (ad 16) Y])) (fun r_ w_ => r_ = 1 ∧ w_ = (List.flatten [wMain ad, wRing V (ad 0) (u2 X0 0 (q * 9 + 7) v), wRing V (ad 1) X1, wRing V (ad 2) X2, wTx V (ad 11) L (nI z) b c d u, wRd (ad 12 0) (ad 11 0) lt, wSd (ad 12 1) (ad 13 0) (ad 14 0) sv, wCopy V (ad 13) A, wCopy V (ad 14) B, wHi (ad 12 2) (ad 12 3) (nI ((x + 1) % 6)) (nI (hsz s)), wRs V (ad 12 3) 6 (fun j_ => ad (5 + j_) 0), wRing V (ad 5) ((va_up Hs x (rCopy (Hs x) X0)) 0), wRing V (ad 6) ((va_up Hs x (rCopy (Hs x) X0)) 1), wRing V (ad 7) ((va_up Hs x (rCopy (Hs x) X0)) 2), wRing V (ad 8) ((va_up Hs x (rCopy (Hs x) X0)) 3), wRing V (ad 9) ((va_up Hs x (rCopy (Hs x) X0)) 4), wRing V (ad 10) ((va_up Hs x (rCopy (Hs x) X0)) 5), wRs V (ad 12 4) 2 (fun j_ => ad (3 + j_) 0), wRing V (ad 3) X3, wRing V (ad 4) X4, wKz V (ad 12 5) kp, wSight V (ad 15) U, wSusp V (ad 16) Y])) := by
  refine CI_intro (by decide) (Nat.le_of_ble_eq_true rfl) (fun K cx hret => ?_)
  show G V K 3 0 0 ((List.flatten [wMain ad, wRing V (ad 0) X0, wRing V (ad 1) X1, wRing V (ad 2) X2, wTx V (ad 11) L (nI z) b c d u, wRd (ad 12 0) (ad 11 0) lt, wSd (ad 12 1) (ad 13 0) (ad 14 0) sv, wCopy V (ad 13) A, wCopy V (ad 14) B, wHi (ad 12 2) (ad 12 3) (nI x) (nI s), wRs V (ad 12 3) 6 (fun j_ => ad (5 + j_) 0), wRing V (ad 5) (Hs 0), wRing V (ad 6) (Hs 1), wRing V (ad 7) (Hs 2), wRing V (ad 8) (Hs 3), wRing V (ad 9) (Hs 4), wRing V (ad 10) (Hs 5), wRs V (ad 12 4) 2 (fun j_ => ad (3 + j_) 0), wRing V (ad 3) X3, wRing V (ad 4) X4, wKz V (ad 12 5) kp, wSight V (ad 15) U, wSusp V (ad 16) Y])) 0 [(0, .ref (ad 12 6)), (1, .int l), (2, .int v)] []
  obtain ⟨hz, hx, hs, hn, hn6, hn1, ho, ho4, hm, hm7, hat, hbR, hbH, hbI, hk, hk6, hU⟩ := hC
  refine g_aload_n (v := ad 12 6) cx dX8_drifts_0 rfl ?_
  refine b_get (v := .ref (ad 0 0)) cx fk_X8_10 dX8_drifts_1 0 0 rfl rfl rfl ?_
  refine g_iload_n (v := l) cx dX8_drifts_4 rfl ?_
  refine b_calli (r0 := bI (¬ l < 0 ∧ ¬ X0 5 0 ≤ l)) (Ws' := [wMain ad, wRing V (ad 0) X0, wRing V (ad 1) X1, wRing V (ad 2) X2, wTx V (ad 11) L (nI z) b c d u, wRd (ad 12 0) (ad 11 0) lt, wSd (ad 12 1) (ad 13 0) (ad 14 0) sv, wCopy V (ad 13) A, wCopy V (ad 14) B, wHi (ad 12 2) (ad 12 3) (nI x) (nI s), wRs V (ad 12 3) 6 (fun j_ => ad (5 + j_) 0), wRing V (ad 5) (Hs 0), wRing V (ad 6) (Hs 1), wRing V (ad 7) (Hs 2), wRing V (ad 8) (Hs 3), wRing V (ad 9) (Hs 4), wRing V (ad 10) (Hs 5), wRs V (ad 12 4) 2 (fun j_ => ad (3 + j_) 0), wRing V (ad 3) X3, wRing V (ad 4) X4, wKz V (ad 12 5) kp, wSight V (ad 15) U, wSusp V (ad 16) Y]) (wcs := [wRing V (ad 0) X0]) (wos := [wRing V (ad 0) X0]) (As := [.int l]) (rest := []) cx (c_X3_hasDrive V (ad 0) X0 l) ml_X8_133 dX8_drifts_5 [1] rfl rfl (List.append_nil _) (List.append_nil _) [[ad 0 0, ad 0 1, ad 0 2, ad 0 3, ad 0 4, ad 0 5]] rfl rfl rfl 0 0 3 rfl rfl rfl rfl rfl rfl (Nat.le_of_ble_eq_true rfl) ⟨Nat.le_of_ble_eq_true rfl, Nat.le_of_ble_eq_true rfl⟩ ⟨Nat.le_refl _, Nat.le_refl _⟩ ?_
  refine g_if_eq_b cx 23 dX8_drifts_8 (by decide) (fun hw1 => absurd (⟨rf_ltMN hl (b := 0) (nl 0) (by omega) (by omega) (by omega), by rw [hn]; exact rf_leMN (a := n) rfl hl (by omega) (by omega) (by omega)⟩) hw1) (fun hw1 => ?_)
  refine g_iload_n (v := v) cx dX8_drifts_11 rfl ?_
  refine g_bipush (v := (-50)) cx dX8_drifts_12 (by decide) ?_
  refine g_icmp_lt cx 23 dX8_drifts_14 (by decide) (fun hw2 => absurd hw2 (hv1)) (fun hw2 => ?_)
  refine g_iload_n (v := v) cx dX8_drifts_17 rfl ?_
  refine g_bipush (v := 50) cx dX8_drifts_18 (by decide) ?_
  refine g_icmp_le cx 25 dX8_drifts_20 (by decide) (fun hw3 => ?_) (fun hw3 => absurd (hv2) hw3)
  refine g_aload_n (v := ad 12 6) cx dX8_drifts_25 rfl ?_
  refine b_get (v := .ref (ad 0 0)) cx fk_X8_10 dX8_drifts_26 0 0 rfl rfl rfl ?_
  refine g_iload_n (v := l) cx dX8_drifts_29 rfl ?_
  refine g_bipush (v := 7) cx dX8_drifts_30 (by decide) ?_
  refine b_calli (r0 := X0 0 (q * 9 + 7)) (Ws' := [wMain ad, wRing V (ad 0) X0, wRing V (ad 1) X1, wRing V (ad 2) X2, wTx V (ad 11) L (nI z) b c d u, wRd (ad 12 0) (ad 11 0) lt, wSd (ad 12 1) (ad 13 0) (ad 14 0) sv, wCopy V (ad 13) A, wCopy V (ad 14) B, wHi (ad 12 2) (ad 12 3) (nI x) (nI s), wRs V (ad 12 3) 6 (fun j_ => ad (5 + j_) 0), wRing V (ad 5) (Hs 0), wRing V (ad 6) (Hs 1), wRing V (ad 7) (Hs 2), wRing V (ad 8) (Hs 3), wRing V (ad 9) (Hs 4), wRing V (ad 10) (Hs 5), wRs V (ad 12 4) 2 (fun j_ => ad (3 + j_) 0), wRing V (ad 3) X3, wRing V (ad 4) X4, wKz V (ad 12 5) kp, wSight V (ad 15) U, wSusp V (ad 16) Y]) (wcs := [wRing V (ad 0) X0]) (wos := [wRing V (ad 0) X0]) (As := [.int l, .int 7]) (rest := []) cx (c_X3_ofDrive V (ad 0) X0 l 7 (q * 9 + 7) (rf_add (rf_mul hl rfl) (nl 7)) (by omega)) ml_X8_136 dX8_drifts_32 [1] rfl rfl (List.append_nil _) (List.append_nil _) [[ad 0 0, ad 0 1, ad 0 2, ad 0 3, ad 0 4, ad 0 5]] rfl rfl rfl 0 0 3 rfl rfl rfl rfl rfl rfl (Nat.le_of_ble_eq_true rfl) ⟨Nat.le_of_ble_eq_true rfl, Nat.le_of_ble_eq_true rfl⟩ ⟨Nat.le_refl _, Nat.le_refl _⟩ ?_
  refine g_iload_n (v := v) cx dX8_drifts_35 rfl ?_
  refine g_icmp_ne cx 42 dX8_drifts_36 (by decide) (fun hw4 => ?_) (fun hw4 => absurd hw4 (h1))
  refine g_aload_n (v := ad 12 6) cx dX8_drifts_42 rfl ?_
  refine b_get (v := .ref (ad 12 2)) cx fk_X8_48 dX8_drifts_43 0 0 rfl rfl rfl ?_
  refine g_aload_n (v := ad 12 6) cx dX8_drifts_46 rfl ?_
  refine b_get (v := .ref (ad 0 0)) cx fk_X8_10 dX8_drifts_47 0 0 rfl rfl rfl ?_
  refine b_callv (Ws' := [wMain ad, wRing V (ad 0) X0, wRing V (ad 1) X1, wRing V (ad 2) X2, wTx V (ad 11) L (nI z) b c d u, wRd (ad 12 0) (ad 11 0) lt, wSd (ad 12 1) (ad 13 0) (ad 14 0) sv, wCopy V (ad 13) A, wCopy V (ad 14) B, wHi (ad 12 2) (ad 12 3) (nI ((x + 1) % 6)) (nI (hsz s)), wRs V (ad 12 3) 6 (fun j_ => ad (5 + j_) 0), wRing V (ad 5) ((va_up Hs x (rCopy (Hs x) X0)) 0), wRing V (ad 6) ((va_up Hs x (rCopy (Hs x) X0)) 1), wRing V (ad 7) ((va_up Hs x (rCopy (Hs x) X0)) 2), wRing V (ad 8) ((va_up Hs x (rCopy (Hs x) X0)) 3), wRing V (ad 9) ((va_up Hs x (rCopy (Hs x) X0)) 4), wRing V (ad 10) ((va_up Hs x (rCopy (Hs x) X0)) 5), wRs V (ad 12 4) 2 (fun j_ => ad (3 + j_) 0), wRing V (ad 3) X3, wRing V (ad 4) X4, wKz V (ad 12 5) kp, wSight V (ad 15) U, wSusp V (ad 16) Y]) (wcs := [wHi (ad 12 2) (ad 12 3) (nI x) (nI s), wRs V (ad 12 3) 6 (fun j_ => ad (5 + j_) 0), wRing V (ad 5) (Hs 0), wRing V (ad 6) (Hs 1), wRing V (ad 7) (Hs 2), wRing V (ad 8) (Hs 3), wRing V (ad 9) (Hs 4), wRing V (ad 10) (Hs 5), wRing V (ad 0) X0]) (wos := [wHi (ad 12 2) (ad 12 3) (nI ((x + 1) % 6)) (nI (hsz s)), wRs V (ad 12 3) 6 (fun j_ => ad (5 + j_) 0), wRing V (ad 5) ((va_up Hs x (rCopy (Hs x) X0)) 0), wRing V (ad 6) ((va_up Hs x (rCopy (Hs x) X0)) 1), wRing V (ad 7) ((va_up Hs x (rCopy (Hs x) X0)) 2), wRing V (ad 8) ((va_up Hs x (rCopy (Hs x) X0)) 3), wRing V (ad 9) ((va_up Hs x (rCopy (Hs x) X0)) 4), wRing V (ad 10) ((va_up Hs x (rCopy (Hs x) X0)) 5), wRing V (ad 0) X0]) (As := [.ref (ad 0 0)]) (rest := []) cx (c_X1_push V (ad 12 2) (ad 12 3) (fun j => ad (5 + j)) Hs x s hx hs (ad 0) X0 hbR) ml_X8_105 dX8_drifts_50 [9, 10, 11, 12, 13, 14, 15, 16, 1] rfl rfl rfl rfl [[ad 12 2], [ad 12 3], [ad 5 0, ad 5 1, ad 5 2, ad 5 3, ad 5 4, ad 5 5], [ad 6 0, ad 6 1, ad 6 2, ad 6 3, ad 6 4, ad 6 5], [ad 7 0, ad 7 1, ad 7 2, ad 7 3, ad 7 4, ad 7 5], [ad 8 0, ad 8 1, ad 8 2, ad 8 3, ad 8 4, ad 8 5], [ad 9 0, ad 9 1, ad 9 2, ad 9 3, ad 9 4, ad 9 5], [ad 10 0, ad 10 1, ad 10 2, ad 10 3, ad 10 4, ad 10 5], [ad 0 0, ad 0 1, ad 0 2, ad 0 3, ad 0 4, ad 0 5]] rfl rfl rfl 0 0 1 rfl rfl rfl rfl rfl rfl (Nat.le_of_ble_eq_true rfl) ⟨Nat.le_of_ble_eq_true rfl, Nat.le_of_ble_eq_true rfl⟩ ⟨Nat.le_refl _, Nat.le_refl _⟩ ?_
  refine g_aload_n (v := ad 12 6) cx dX8_drifts_53 rfl ?_
  refine b_get (v := .ref (ad 0 0)) cx fk_X8_10 dX8_drifts_54 0 0 rfl rfl rfl ?_
  refine g_iload_n (v := l) cx dX8_drifts_57 rfl ?_
  refine g_bipush (v := 7) cx dX8_drifts_58 (by decide) ?_
  refine g_iload_n (v := v) cx dX8_drifts_60 rfl ?_
  refine b_callv (Ws' := [wMain ad, wRing V (ad 0) (u2 X0 0 (q * 9 + 7) v), wRing V (ad 1) X1, wRing V (ad 2) X2, wTx V (ad 11) L (nI z) b c d u, wRd (ad 12 0) (ad 11 0) lt, wSd (ad 12 1) (ad 13 0) (ad 14 0) sv, wCopy V (ad 13) A, wCopy V (ad 14) B, wHi (ad 12 2) (ad 12 3) (nI ((x + 1) % 6)) (nI (hsz s)), wRs V (ad 12 3) 6 (fun j_ => ad (5 + j_) 0), wRing V (ad 5) ((va_up Hs x (rCopy (Hs x) X0)) 0), wRing V (ad 6) ((va_up Hs x (rCopy (Hs x) X0)) 1), wRing V (ad 7) ((va_up Hs x (rCopy (Hs x) X0)) 2), wRing V (ad 8) ((va_up Hs x (rCopy (Hs x) X0)) 3), wRing V (ad 9) ((va_up Hs x (rCopy (Hs x) X0)) 4), wRing V (ad 10) ((va_up Hs x (rCopy (Hs x) X0)) 5), wRs V (ad 12 4) 2 (fun j_ => ad (3 + j_) 0), wRing V (ad 3) X3, wRing V (ad 4) X4, wKz V (ad 12 5) kp, wSight V (ad 15) U, wSusp V (ad 16) Y]) (wcs := [wRing V (ad 0) X0]) (wos := [wRing V (ad 0) (u2 X0 0 (q * 9 + 7) v)]) (As := [.int l, .int 7, .int v]) (rest := []) cx (c_X3_putDrive V (ad 0) X0 l 7 v (q * 9 + 7) (rf_add (rf_mul hl rfl) (nl 7)) (by omega)) ml_X8_143 dX8_drifts_61 [1] rfl rfl (List.append_nil _) (List.append_nil _) [[ad 0 0, ad 0 1, ad 0 2, ad 0 3, ad 0 4, ad 0 5]] rfl rfl rfl 0 0 3 rfl rfl rfl rfl rfl rfl (Nat.le_of_ble_eq_true rfl) ⟨Nat.le_of_ble_eq_true rfl, Nat.le_of_ble_eq_true rfl⟩ ⟨Nat.le_refl _, Nat.le_refl _⟩ ?_
  refine g_iconst (v := 1) cx dX8_drifts_64 (by decide) ?_
  exact hret _ _ _ _ dX8_drifts_65 (rfl) ⟨rfl, rfl⟩
def rm_X8_undo_state : Room := { frames := 0, cells := 0, slots := 0, locals := 0 }
set_option maxRecDepth 100000 in
set_option maxHeartbeats 4000000 in
theorem c_X8_undo_state (V : VT) (ad : Nat → Nat → Nat) (X0 X1 X2 X3 X4 : S2) (Hs : Nat → S2) (L : Nat → Int32) (z : Nat) (b c d u lt sv : Int32) (A B : S2) (x s : Nat) (kp : Nat → Int32) (U Y : S2) (n o m k : Nat) (hC : okC X0 X3 X4 Hs z x s n o m k U)  (h1 : s = 0) : CI V yX8_undo cX8_undo 1 .int rm_X8_undo_state [.ref (ad 12 6)] ((List.flatten [wMain ad, wRing V (ad 0) X0, wRing V (ad 1) X1, wRing V (ad 2) X2, wTx V (ad 11) L (nI z) b c d u, wRd (ad 12 0) (ad 11 0) lt, wSd (ad 12 1) (ad 13 0) (ad 14 0) sv, wCopy V (ad 13) A, wCopy V (ad 14) B, wHi (ad 12 2) (ad 12 3) (nI x) (nI s), wRs V (ad 12 3) 6 (fun j_ => ad (5 + j_) 0), wRing V (ad 5) (Hs 0), wRing V (ad 6) (Hs 1), wRing V (ad 7) (Hs 2), wRing V (ad 8) (Hs 3), wRing V (ad 9) (Hs 4), wRing V (ad 10) (Hs 5), wRs V (ad 12 4) 2 (fun j_ => ad (3 + j_) 0), wRing V (ad 3) X3, wRing V (ad 4) X4, wKz V (ad 12 5) kp, wSight V (ad 15) U, wSusp V (ad 16) Y])) (fun r_ w_ => r_ = (-2) ∧ w_ = (List.flatten [wMain ad, wRing V (ad 0) X0, wRing V (ad 1) X1, wRing V (ad 2) X2, wTx V (ad 11) L (nI z) b c d u, wRd (ad 12 0) (ad 11 0) lt, wSd (ad 12 1) (ad 13 0) (ad 14 0) sv, wCopy V (ad 13) A, wCopy V (ad 14) B, wHi (ad 12 2) (ad 12 3) (nI x) (nI s), wRs V (ad 12 3) 6 (fun j_ => ad (5 + j_) 0), wRing V (ad 5) (Hs 0), wRing V (ad 6) (Hs 1), wRing V (ad 7) (Hs 2), wRing V (ad 8) (Hs 3), wRing V (ad 9) (Hs 4), wRing V (ad 10) (Hs 5), wRs V (ad 12 4) 2 (fun j_ => ad (3 + j_) 0), wRing V (ad 3) X3, wRing V (ad 4) X4, wKz V (ad 12 5) kp, wSight V (ad 15) U, wSusp V (ad 16) Y])) := by
  refine CI_intro (by decide) (Nat.le_of_ble_eq_true rfl) (fun K cx hret => ?_)
  show G V K 1 0 0 ((List.flatten [wMain ad, wRing V (ad 0) X0, wRing V (ad 1) X1, wRing V (ad 2) X2, wTx V (ad 11) L (nI z) b c d u, wRd (ad 12 0) (ad 11 0) lt, wSd (ad 12 1) (ad 13 0) (ad 14 0) sv, wCopy V (ad 13) A, wCopy V (ad 14) B, wHi (ad 12 2) (ad 12 3) (nI x) (nI s), wRs V (ad 12 3) 6 (fun j_ => ad (5 + j_) 0), wRing V (ad 5) (Hs 0), wRing V (ad 6) (Hs 1), wRing V (ad 7) (Hs 2), wRing V (ad 8) (Hs 3), wRing V (ad 9) (Hs 4), wRing V (ad 10) (Hs 5), wRs V (ad 12 4) 2 (fun j_ => ad (3 + j_) 0), wRing V (ad 3) X3, wRing V (ad 4) X4, wKz V (ad 12 5) kp, wSight V (ad 15) U, wSusp V (ad 16) Y])) 0 [(0, .ref (ad 12 6))] []
  obtain ⟨hz, hx, hs, hn, hn6, hn1, ho, ho4, hm, hm7, hat, hbR, hbH, hbI, hk, hk6, hU⟩ := hC
  refine g_aload_n (v := ad 12 6) cx dX8_undo_0 rfl ?_
  refine b_get (v := .ref (ad 12 2)) cx fk_X8_48 dX8_undo_1 0 0 rfl rfl rfl ?_
  refine b_get (v := .int (nI s)) cx fk_X8_158 dX8_undo_4 9 0 rfl rfl rfl ?_
  refine g_if_ne cx 13 dX8_undo_7 (by decide) (fun hw1 => absurd (by rw [h1]; rfl) hw1) (fun hw1 => ?_)
  refine g_bipush (v := (-2)) cx dX8_undo_10 (by decide) ?_
  exact hret _ _ _ _ dX8_undo_12 (rfl) ⟨rfl, rfl⟩
def rm_X8_undo_ok : Room := { frames := 3, cells := 0, slots := 0, locals := 68 }
set_option maxRecDepth 100000 in
set_option maxHeartbeats 4000000 in
theorem c_X8_undo_ok (V : VT) (ad : Nat → Nat → Nat) (X0 X1 X2 X3 X4 : S2) (Hs : Nat → S2) (L : Nat → Int32) (z : Nat) (b c d u lt sv : Int32) (A B : S2) (x s : Nat) (kp : Nat → Int32) (U Y : S2) (n o m k : Nat) (hC : okC X0 X3 X4 Hs z x s n o m k U)  (h1 : 1 ≤ s) : CI V yX8_undo cX8_undo 1 .int rm_X8_undo_ok [.ref (ad 12 6)] ((List.flatten [wMain ad, wRing V (ad 0) X0, wRing V (ad 1) X1, wRing V (ad 2) X2, wTx V (ad 11) L (nI z) b c d u, wRd (ad 12 0) (ad 11 0) lt, wSd (ad 12 1) (ad 13 0) (ad 14 0) sv, wCopy V (ad 13) A, wCopy V (ad 14) B, wHi (ad 12 2) (ad 12 3) (nI x) (nI s), wRs V (ad 12 3) 6 (fun j_ => ad (5 + j_) 0), wRing V (ad 5) (Hs 0), wRing V (ad 6) (Hs 1), wRing V (ad 7) (Hs 2), wRing V (ad 8) (Hs 3), wRing V (ad 9) (Hs 4), wRing V (ad 10) (Hs 5), wRs V (ad 12 4) 2 (fun j_ => ad (3 + j_) 0), wRing V (ad 3) X3, wRing V (ad 4) X4, wKz V (ad 12 5) kp, wSight V (ad 15) U, wSusp V (ad 16) Y])) (fun r_ w_ => r_ = nI (s - 1) ∧ w_ = (List.flatten [wMain ad, wRing V (ad 0) (rCopy X0 (Hs ((x + 5) % 6))), wRing V (ad 1) X1, wRing V (ad 2) X2, wTx V (ad 11) L (nI z) b c d u, wRd (ad 12 0) (ad 11 0) lt, wSd (ad 12 1) (ad 13 0) (ad 14 0) sv, wCopy V (ad 13) A, wCopy V (ad 14) B, wHi (ad 12 2) (ad 12 3) (nI ((x + 5) % 6)) (nI (s - 1)), wRs V (ad 12 3) 6 (fun j_ => ad (5 + j_) 0), wRing V (ad 5) (Hs 0), wRing V (ad 6) (Hs 1), wRing V (ad 7) (Hs 2), wRing V (ad 8) (Hs 3), wRing V (ad 9) (Hs 4), wRing V (ad 10) (Hs 5), wRs V (ad 12 4) 2 (fun j_ => ad (3 + j_) 0), wRing V (ad 3) X3, wRing V (ad 4) X4, wKz V (ad 12 5) kp, wSight V (ad 15) U, wSusp V (ad 16) Y])) := by
  refine CI_intro (by decide) (Nat.le_of_ble_eq_true rfl) (fun K cx hret => ?_)
  show G V K 1 0 0 ((List.flatten [wMain ad, wRing V (ad 0) X0, wRing V (ad 1) X1, wRing V (ad 2) X2, wTx V (ad 11) L (nI z) b c d u, wRd (ad 12 0) (ad 11 0) lt, wSd (ad 12 1) (ad 13 0) (ad 14 0) sv, wCopy V (ad 13) A, wCopy V (ad 14) B, wHi (ad 12 2) (ad 12 3) (nI x) (nI s), wRs V (ad 12 3) 6 (fun j_ => ad (5 + j_) 0), wRing V (ad 5) (Hs 0), wRing V (ad 6) (Hs 1), wRing V (ad 7) (Hs 2), wRing V (ad 8) (Hs 3), wRing V (ad 9) (Hs 4), wRing V (ad 10) (Hs 5), wRs V (ad 12 4) 2 (fun j_ => ad (3 + j_) 0), wRing V (ad 3) X3, wRing V (ad 4) X4, wKz V (ad 12 5) kp, wSight V (ad 15) U, wSusp V (ad 16) Y])) 0 [(0, .ref (ad 12 6))] []
  obtain ⟨hz, hx, hs, hn, hn6, hn1, ho, ho4, hm, hm7, hat, hbR, hbH, hbI, hk, hk6, hU⟩ := hC
  refine g_aload_n (v := ad 12 6) cx dX8_undo_0 rfl ?_
  refine b_get (v := .ref (ad 12 2)) cx fk_X8_48 dX8_undo_1 0 0 rfl rfl rfl ?_
  refine b_get (v := .int (nI s)) cx fk_X8_158 dX8_undo_4 9 0 rfl rfl rfl ?_
  refine g_if_ne cx 13 dX8_undo_7 (by decide) (fun hw1 => ?_) (fun hw1 => absurd hw1 (rf_eqMN rfl (nl 0) (by omega) (by omega) (by omega)))
  refine g_aload_n (v := ad 12 6) cx dX8_undo_13 rfl ?_
  refine b_get (v := .ref (ad 12 2)) cx fk_X8_48 dX8_undo_14 0 0 rfl rfl rfl ?_
  refine g_aload_n (v := ad 12 6) cx dX8_undo_17 rfl ?_
  refine b_get (v := .ref (ad 0 0)) cx fk_X8_10 dX8_undo_18 0 0 rfl rfl rfl ?_
  refine b_callv (Ws' := [wMain ad, wRing V (ad 0) (rCopy X0 (Hs ((x + 5) % 6))), wRing V (ad 1) X1, wRing V (ad 2) X2, wTx V (ad 11) L (nI z) b c d u, wRd (ad 12 0) (ad 11 0) lt, wSd (ad 12 1) (ad 13 0) (ad 14 0) sv, wCopy V (ad 13) A, wCopy V (ad 14) B, wHi (ad 12 2) (ad 12 3) (nI ((x + 5) % 6)) (nI (s - 1)), wRs V (ad 12 3) 6 (fun j_ => ad (5 + j_) 0), wRing V (ad 5) (Hs 0), wRing V (ad 6) (Hs 1), wRing V (ad 7) (Hs 2), wRing V (ad 8) (Hs 3), wRing V (ad 9) (Hs 4), wRing V (ad 10) (Hs 5), wRs V (ad 12 4) 2 (fun j_ => ad (3 + j_) 0), wRing V (ad 3) X3, wRing V (ad 4) X4, wKz V (ad 12 5) kp, wSight V (ad 15) U, wSusp V (ad 16) Y]) (wcs := [wHi (ad 12 2) (ad 12 3) (nI x) (nI s), wRs V (ad 12 3) 6 (fun j_ => ad (5 + j_) 0), wRing V (ad 5) (Hs 0), wRing V (ad 6) (Hs 1), wRing V (ad 7) (Hs 2), wRing V (ad 8) (Hs 3), wRing V (ad 9) (Hs 4), wRing V (ad 10) (Hs 5), wRing V (ad 0) X0]) (wos := [wHi (ad 12 2) (ad 12 3) (nI ((x + 5) % 6)) (nI (s - 1)), wRs V (ad 12 3) 6 (fun j_ => ad (5 + j_) 0), wRing V (ad 5) (Hs 0), wRing V (ad 6) (Hs 1), wRing V (ad 7) (Hs 2), wRing V (ad 8) (Hs 3), wRing V (ad 9) (Hs 4), wRing V (ad 10) (Hs 5), wRing V (ad 0) (rCopy X0 (Hs ((x + 5) % 6)))]) (As := [.ref (ad 0 0)]) (rest := []) cx (c_X1_pop V (ad 12 2) (ad 12 3) (fun j => ad (5 + j)) Hs x s hx hs h1 (ad 0) X0 hbH) ml_X8_159 dX8_undo_21 [9, 10, 11, 12, 13, 14, 15, 16, 1] rfl rfl rfl rfl [[ad 12 2], [ad 12 3], [ad 5 0, ad 5 1, ad 5 2, ad 5 3, ad 5 4, ad 5 5], [ad 6 0, ad 6 1, ad 6 2, ad 6 3, ad 6 4, ad 6 5], [ad 7 0, ad 7 1, ad 7 2, ad 7 3, ad 7 4, ad 7 5], [ad 8 0, ad 8 1, ad 8 2, ad 8 3, ad 8 4, ad 8 5], [ad 9 0, ad 9 1, ad 9 2, ad 9 3, ad 9 4, ad 9 5], [ad 10 0, ad 10 1, ad 10 2, ad 10 3, ad 10 4, ad 10 5], [ad 0 0, ad 0 1, ad 0 2, ad 0 3, ad 0 4, ad 0 5]] rfl rfl rfl 0 0 1 rfl rfl rfl rfl rfl rfl (Nat.le_of_ble_eq_true rfl) ⟨Nat.le_of_ble_eq_true rfl, Nat.le_of_ble_eq_true rfl⟩ ⟨Nat.le_refl _, Nat.le_refl _⟩ ?_
  refine g_aload_n (v := ad 12 6) cx dX8_undo_24 rfl ?_
  refine b_get (v := .ref (ad 12 2)) cx fk_X8_48 dX8_undo_25 0 0 rfl rfl rfl ?_
  refine b_get (v := .int (nI (s - 1))) cx fk_X8_158 dX8_undo_28 9 0 rfl rfl rfl ?_
  exact hret _ _ _ _ dX8_undo_31 (rfl) ⟨rfl, rfl⟩
def rm_X8_drive_bad : Room := { frames := 1, cells := 0, slots := 0, locals := 21 }
set_option maxRecDepth 100000 in
set_option maxHeartbeats 4000000 in
theorem c_X8_drive_bad (V : VT) (ad : Nat → Nat → Nat) (X0 X1 X2 X3 X4 : S2) (Hs : Nat → S2) (L : Nat → Int32) (z : Nat) (b c d u lt sv : Int32) (A B : S2) (x s : Nat) (kp : Nat → Int32) (U Y : S2) (n o m k : Nat) (hC : okC X0 X3 X4 Hs z x s n o m k U) (l w : Int32) (hb : ¬ ((¬ l < 0 ∧ ¬ X0 5 0 ≤ l) ∧ ¬ w < 0 ∧ w ≤ 9)) : CI V yX8_drive cX8_drive 3 .int rm_X8_drive_bad [.ref (ad 12 6), .int l, .int w] ((List.flatten [wMain ad, wRing V (ad 0) X0, wRing V (ad 1) X1, wRing V (ad 2) X2, wTx V (ad 11) L (nI z) b c d u, wRd (ad 12 0) (ad 11 0) lt, wSd (ad 12 1) (ad 13 0) (ad 14 0) sv, wCopy V (ad 13) A, wCopy V (ad 14) B, wHi (ad 12 2) (ad 12 3) (nI x) (nI s), wRs V (ad 12 3) 6 (fun j_ => ad (5 + j_) 0), wRing V (ad 5) (Hs 0), wRing V (ad 6) (Hs 1), wRing V (ad 7) (Hs 2), wRing V (ad 8) (Hs 3), wRing V (ad 9) (Hs 4), wRing V (ad 10) (Hs 5), wRs V (ad 12 4) 2 (fun j_ => ad (3 + j_) 0), wRing V (ad 3) X3, wRing V (ad 4) X4, wKz V (ad 12 5) kp, wSight V (ad 15) U, wSusp V (ad 16) Y])) (fun r_ w_ => r_ = (-1000000) ∧ w_ = (List.flatten [wMain ad, wRing V (ad 0) X0, wRing V (ad 1) X1, wRing V (ad 2) X2, wTx V (ad 11) L (nI z) b c d u, wRd (ad 12 0) (ad 11 0) lt, wSd (ad 12 1) (ad 13 0) (ad 14 0) sv, wCopy V (ad 13) A, wCopy V (ad 14) B, wHi (ad 12 2) (ad 12 3) (nI x) (nI s), wRs V (ad 12 3) 6 (fun j_ => ad (5 + j_) 0), wRing V (ad 5) (Hs 0), wRing V (ad 6) (Hs 1), wRing V (ad 7) (Hs 2), wRing V (ad 8) (Hs 3), wRing V (ad 9) (Hs 4), wRing V (ad 10) (Hs 5), wRs V (ad 12 4) 2 (fun j_ => ad (3 + j_) 0), wRing V (ad 3) X3, wRing V (ad 4) X4, wKz V (ad 12 5) kp, wSight V (ad 15) U, wSusp V (ad 16) Y])) := by
  refine CI_intro (by decide) (Nat.le_of_ble_eq_true rfl) (fun K cx hret => ?_)
  show G V K 3 0 0 ((List.flatten [wMain ad, wRing V (ad 0) X0, wRing V (ad 1) X1, wRing V (ad 2) X2, wTx V (ad 11) L (nI z) b c d u, wRd (ad 12 0) (ad 11 0) lt, wSd (ad 12 1) (ad 13 0) (ad 14 0) sv, wCopy V (ad 13) A, wCopy V (ad 14) B, wHi (ad 12 2) (ad 12 3) (nI x) (nI s), wRs V (ad 12 3) 6 (fun j_ => ad (5 + j_) 0), wRing V (ad 5) (Hs 0), wRing V (ad 6) (Hs 1), wRing V (ad 7) (Hs 2), wRing V (ad 8) (Hs 3), wRing V (ad 9) (Hs 4), wRing V (ad 10) (Hs 5), wRs V (ad 12 4) 2 (fun j_ => ad (3 + j_) 0), wRing V (ad 3) X3, wRing V (ad 4) X4, wKz V (ad 12 5) kp, wSight V (ad 15) U, wSusp V (ad 16) Y])) 0 [(0, .ref (ad 12 6)), (1, .int l), (2, .int w)] []
  obtain ⟨hz, hx, hs, hn, hn6, hn1, ho, ho4, hm, hm7, hat, hbR, hbH, hbI, hk, hk6, hU⟩ := hC
  refine g_aload_n (v := ad 12 6) cx dX8_drive_0 rfl ?_
  refine b_get (v := .ref (ad 0 0)) cx fk_X8_10 dX8_drive_1 0 0 rfl rfl rfl ?_
  refine g_iload_n (v := l) cx dX8_drive_4 rfl ?_
  refine b_calli (r0 := bI (¬ l < 0 ∧ ¬ X0 5 0 ≤ l)) (Ws' := [wMain ad, wRing V (ad 0) X0, wRing V (ad 1) X1, wRing V (ad 2) X2, wTx V (ad 11) L (nI z) b c d u, wRd (ad 12 0) (ad 11 0) lt, wSd (ad 12 1) (ad 13 0) (ad 14 0) sv, wCopy V (ad 13) A, wCopy V (ad 14) B, wHi (ad 12 2) (ad 12 3) (nI x) (nI s), wRs V (ad 12 3) 6 (fun j_ => ad (5 + j_) 0), wRing V (ad 5) (Hs 0), wRing V (ad 6) (Hs 1), wRing V (ad 7) (Hs 2), wRing V (ad 8) (Hs 3), wRing V (ad 9) (Hs 4), wRing V (ad 10) (Hs 5), wRs V (ad 12 4) 2 (fun j_ => ad (3 + j_) 0), wRing V (ad 3) X3, wRing V (ad 4) X4, wKz V (ad 12 5) kp, wSight V (ad 15) U, wSusp V (ad 16) Y]) (wcs := [wRing V (ad 0) X0]) (wos := [wRing V (ad 0) X0]) (As := [.int l]) (rest := []) cx (c_X3_hasDrive V (ad 0) X0 l) ml_X8_133 dX8_drive_5 [1] rfl rfl (List.append_nil _) (List.append_nil _) [[ad 0 0, ad 0 1, ad 0 2, ad 0 3, ad 0 4, ad 0 5]] rfl rfl rfl 0 0 3 rfl rfl rfl rfl rfl rfl (Nat.le_of_ble_eq_true rfl) ⟨Nat.le_of_ble_eq_true rfl, Nat.le_of_ble_eq_true rfl⟩ ⟨Nat.le_refl _, Nat.le_refl _⟩ ?_
  refine g_if_eq_b cx 21 dX8_drive_8 (by decide) (fun hw1 => ?_) (fun hw1 => ?_)
  · skip
    refine g_ldc (v := (-1000000)) cx cw_X8_162 dX8_drive_21 ?_
    exact hret _ _ _ _ dX8_drive_23 (rfl) ⟨rfl, rfl⟩
  · skip
    refine g_iload_n (v := w) cx dX8_drive_11 rfl ?_
    refine g_if_lt cx 21 dX8_drive_12 (by decide) (fun hw2 => ?_) (fun hw2 => ?_)
    · skip
      refine g_ldc (v := (-1000000)) cx cw_X8_162 dX8_drive_21 ?_
      exact hret _ _ _ _ dX8_drive_23 (rfl) ⟨rfl, rfl⟩
    · skip
      refine g_iload_n (v := w) cx dX8_drive_15 rfl ?_
      refine g_bipush (v := 9) cx dX8_drive_16 (by decide) ?_
      refine g_icmp_le cx 24 dX8_drive_18 (by decide) (fun hw3 => ?_) (fun hw3 => ?_)
      · skip
        exact absurd ⟨hw1, hw2, hw3⟩ hb
      · skip
        refine g_ldc (v := (-1000000)) cx cw_X8_162 dX8_drive_21 ?_
        exact hret _ _ _ _ dX8_drive_23 (rfl) ⟨rfl, rfl⟩
def rm_X8_drive_nine : Room := { frames := 2, cells := 0, slots := 0, locals := 43 }
set_option maxRecDepth 100000 in
set_option maxHeartbeats 4000000 in
theorem c_X8_drive_nine (V : VT) (ad : Nat → Nat → Nat) (X0 X1 X2 X3 X4 : S2) (Hs : Nat → S2) (L : Nat → Int32) (z : Nat) (b c d u lt sv : Int32) (A B : S2) (x s : Nat) (kp : Nat → Int32) (U Y : S2) (n o m k : Nat) (hC : okC X0 X3 X4 Hs z x s n o m k U) (l w : Int32) (q t : Nat) (hl : l = nI q) (hq : q < n) (hw : w = nI t) (ht : t = 9) : CI V yX8_drive cX8_drive 3 .int rm_X8_drive_nine [.ref (ad 12 6), .int l, .int w] ((List.flatten [wMain ad, wRing V (ad 0) X0, wRing V (ad 1) X1, wRing V (ad 2) X2, wTx V (ad 11) L (nI z) b c d u, wRd (ad 12 0) (ad 11 0) lt, wSd (ad 12 1) (ad 13 0) (ad 14 0) sv, wCopy V (ad 13) A, wCopy V (ad 14) B, wHi (ad 12 2) (ad 12 3) (nI x) (nI s), wRs V (ad 12 3) 6 (fun j_ => ad (5 + j_) 0), wRing V (ad 5) (Hs 0), wRing V (ad 6) (Hs 1), wRing V (ad 7) (Hs 2), wRing V (ad 8) (Hs 3), wRing V (ad 9) (Hs 4), wRing V (ad 10) (Hs 5), wRs V (ad 12 4) 2 (fun j_ => ad (3 + j_) 0), wRing V (ad 3) X3, wRing V (ad 4) X4, wKz V (ad 12 5) kp, wSight V (ad 15) U, wSusp V (ad 16) Y])) (fun r_ w_ => r_ = rOff X0 q ∧ w_ = (List.flatten [wMain ad, wRing V (ad 0) X0, wRing V (ad 1) X1, wRing V (ad 2) X2, wTx V (ad 11) L (nI z) b c d u, wRd (ad 12 0) (ad 11 0) lt, wSd (ad 12 1) (ad 13 0) (ad 14 0) sv, wCopy V (ad 13) A, wCopy V (ad 14) B, wHi (ad 12 2) (ad 12 3) (nI x) (nI s), wRs V (ad 12 3) 6 (fun j_ => ad (5 + j_) 0), wRing V (ad 5) (Hs 0), wRing V (ad 6) (Hs 1), wRing V (ad 7) (Hs 2), wRing V (ad 8) (Hs 3), wRing V (ad 9) (Hs 4), wRing V (ad 10) (Hs 5), wRs V (ad 12 4) 2 (fun j_ => ad (3 + j_) 0), wRing V (ad 3) X3, wRing V (ad 4) X4, wKz V (ad 12 5) kp, wSight V (ad 15) U, wSusp V (ad 16) Y])) := by
  refine CI_intro (by decide) (Nat.le_of_ble_eq_true rfl) (fun K cx hret => ?_)
  show G V K 3 0 0 ((List.flatten [wMain ad, wRing V (ad 0) X0, wRing V (ad 1) X1, wRing V (ad 2) X2, wTx V (ad 11) L (nI z) b c d u, wRd (ad 12 0) (ad 11 0) lt, wSd (ad 12 1) (ad 13 0) (ad 14 0) sv, wCopy V (ad 13) A, wCopy V (ad 14) B, wHi (ad 12 2) (ad 12 3) (nI x) (nI s), wRs V (ad 12 3) 6 (fun j_ => ad (5 + j_) 0), wRing V (ad 5) (Hs 0), wRing V (ad 6) (Hs 1), wRing V (ad 7) (Hs 2), wRing V (ad 8) (Hs 3), wRing V (ad 9) (Hs 4), wRing V (ad 10) (Hs 5), wRs V (ad 12 4) 2 (fun j_ => ad (3 + j_) 0), wRing V (ad 3) X3, wRing V (ad 4) X4, wKz V (ad 12 5) kp, wSight V (ad 15) U, wSusp V (ad 16) Y])) 0 [(0, .ref (ad 12 6)), (1, .int l), (2, .int w)] []
  obtain ⟨hz, hx, hs, hn, hn6, hn1, ho, ho4, hm, hm7, hat, hbR, hbH, hbI, hk, hk6, hU⟩ := hC
  refine g_aload_n (v := ad 12 6) cx dX8_drive_0 rfl ?_
  refine b_get (v := .ref (ad 0 0)) cx fk_X8_10 dX8_drive_1 0 0 rfl rfl rfl ?_
  refine g_iload_n (v := l) cx dX8_drive_4 rfl ?_
  refine b_calli (r0 := bI (¬ l < 0 ∧ ¬ X0 5 0 ≤ l)) (Ws' := [wMain ad, wRing V (ad 0) X0, wRing V (ad 1) X1, wRing V (ad 2) X2, wTx V (ad 11) L (nI z) b c d u, wRd (ad 12 0) (ad 11 0) lt, wSd (ad 12 1) (ad 13 0) (ad 14 0) sv, wCopy V (ad 13) A, wCopy V (ad 14) B, wHi (ad 12 2) (ad 12 3) (nI x) (nI s), wRs V (ad 12 3) 6 (fun j_ => ad (5 + j_) 0), wRing V (ad 5) (Hs 0), wRing V (ad 6) (Hs 1), wRing V (ad 7) (Hs 2), wRing V (ad 8) (Hs 3), wRing V (ad 9) (Hs 4), wRing V (ad 10) (Hs 5), wRs V (ad 12 4) 2 (fun j_ => ad (3 + j_) 0), wRing V (ad 3) X3, wRing V (ad 4) X4, wKz V (ad 12 5) kp, wSight V (ad 15) U, wSusp V (ad 16) Y]) (wcs := [wRing V (ad 0) X0]) (wos := [wRing V (ad 0) X0]) (As := [.int l]) (rest := []) cx (c_X3_hasDrive V (ad 0) X0 l) ml_X8_133 dX8_drive_5 [1] rfl rfl (List.append_nil _) (List.append_nil _) [[ad 0 0, ad 0 1, ad 0 2, ad 0 3, ad 0 4, ad 0 5]] rfl rfl rfl 0 0 3 rfl rfl rfl rfl rfl rfl (Nat.le_of_ble_eq_true rfl) ⟨Nat.le_of_ble_eq_true rfl, Nat.le_of_ble_eq_true rfl⟩ ⟨Nat.le_refl _, Nat.le_refl _⟩ ?_
  refine g_if_eq_b cx 21 dX8_drive_8 (by decide) (fun hw1 => absurd (⟨rf_ltMN hl (b := 0) (nl 0) (by omega) (by omega) (by omega), by rw [hn]; exact rf_leMN (a := n) rfl hl (by omega) (by omega) (by omega)⟩) hw1) (fun hw1 => ?_)
  refine g_iload_n (v := w) cx dX8_drive_11 rfl ?_
  refine g_if_lt cx 21 dX8_drive_12 (by decide) (fun hw2 => absurd hw2 (rf_ltMN hw (nl 0) (by omega) (by omega) (by omega))) (fun hw2 => ?_)
  refine g_iload_n (v := w) cx dX8_drive_15 rfl ?_
  refine g_bipush (v := 9) cx dX8_drive_16 (by decide) ?_
  refine g_icmp_le cx 24 dX8_drive_18 (by decide) (fun hw3 => ?_) (fun hw3 => absurd (rf_leMP hw (nl 9) (by omega) (by omega) (by omega)) hw3)
  refine g_iload_n (v := w) cx dX8_drive_24 rfl ?_
  refine g_bipush (v := 9) cx dX8_drive_25 (by decide) ?_
  refine g_icmp_ne cx 41 dX8_drive_27 (by decide) (fun hw4 => absurd (rf_eqMP hw (nl 9) (by omega) (by omega) ht) hw4) (fun hw4 => ?_)
  refine g_aload_n (v := ad 12 6) cx dX8_drive_30 rfl ?_
  refine b_get (v := .ref (ad 0 0)) cx fk_X8_10 dX8_drive_31 0 0 rfl rfl rfl ?_
  refine g_iload_n (v := l) cx dX8_drive_34 rfl ?_
  refine b_calli (r0 := rOff X0 q) (Ws' := [wMain ad, wRing V (ad 0) X0, wRing V (ad 1) X1, wRing V (ad 2) X2, wTx V (ad 11) L (nI z) b c d u, wRd (ad 12 0) (ad 11 0) lt, wSd (ad 12 1) (ad 13 0) (ad 14 0) sv, wCopy V (ad 13) A, wCopy V (ad 14) B, wHi (ad 12 2) (ad 12 3) (nI x) (nI s), wRs V (ad 12 3) 6 (fun j_ => ad (5 + j_) 0), wRing V (ad 5) (Hs 0), wRing V (ad 6) (Hs 1), wRing V (ad 7) (Hs 2), wRing V (ad 8) (Hs 3), wRing V (ad 9) (Hs 4), wRing V (ad 10) (Hs 5), wRs V (ad 12 4) 2 (fun j_ => ad (3 + j_) 0), wRing V (ad 3) X3, wRing V (ad 4) X4, wKz V (ad 12 5) kp, wSight V (ad 15) U, wSusp V (ad 16) Y]) (wcs := [wRing V (ad 0) X0]) (wos := [wRing V (ad 0) X0]) (As := [.int l]) (rest := []) cx (c_X3_offOf V (ad 0) X0 l q hl (by omega)) ml_X8_163 dX8_drive_35 [1] rfl rfl (List.append_nil _) (List.append_nil _) [[ad 0 0, ad 0 1, ad 0 2, ad 0 3, ad 0 4, ad 0 5]] rfl rfl rfl 0 0 3 rfl rfl rfl rfl rfl rfl (Nat.le_of_ble_eq_true rfl) ⟨Nat.le_of_ble_eq_true rfl, Nat.le_of_ble_eq_true rfl⟩ ⟨Nat.le_refl _, Nat.le_refl _⟩ ?_
  refine g_goto cx 50 dX8_drive_38 (by decide) ?_
  exact hret _ _ _ _ dX8_drive_50 (rfl) ⟨rfl, rfl⟩
def rm_X8_drive_ok : Room := { frames := 1, cells := 0, slots := 0, locals := 22 }
set_option maxRecDepth 100000 in
set_option maxHeartbeats 4000000 in
theorem c_X8_drive_ok (V : VT) (ad : Nat → Nat → Nat) (X0 X1 X2 X3 X4 : S2) (Hs : Nat → S2) (L : Nat → Int32) (z : Nat) (b c d u lt sv : Int32) (A B : S2) (x s : Nat) (kp : Nat → Int32) (U Y : S2) (n o m k : Nat) (hC : okC X0 X3 X4 Hs z x s n o m k U) (l w : Int32) (q t : Nat) (hl : l = nI q) (hq : q < n) (hw : w = nI t) (ht : t < 9) : CI V yX8_drive cX8_drive 3 .int rm_X8_drive_ok [.ref (ad 12 6), .int l, .int w] ((List.flatten [wMain ad, wRing V (ad 0) X0, wRing V (ad 1) X1, wRing V (ad 2) X2, wTx V (ad 11) L (nI z) b c d u, wRd (ad 12 0) (ad 11 0) lt, wSd (ad 12 1) (ad 13 0) (ad 14 0) sv, wCopy V (ad 13) A, wCopy V (ad 14) B, wHi (ad 12 2) (ad 12 3) (nI x) (nI s), wRs V (ad 12 3) 6 (fun j_ => ad (5 + j_) 0), wRing V (ad 5) (Hs 0), wRing V (ad 6) (Hs 1), wRing V (ad 7) (Hs 2), wRing V (ad 8) (Hs 3), wRing V (ad 9) (Hs 4), wRing V (ad 10) (Hs 5), wRs V (ad 12 4) 2 (fun j_ => ad (3 + j_) 0), wRing V (ad 3) X3, wRing V (ad 4) X4, wKz V (ad 12 5) kp, wSight V (ad 15) U, wSusp V (ad 16) Y])) (fun r_ w_ => r_ = X0 0 (q * 9 + t) ∧ w_ = (List.flatten [wMain ad, wRing V (ad 0) X0, wRing V (ad 1) X1, wRing V (ad 2) X2, wTx V (ad 11) L (nI z) b c d u, wRd (ad 12 0) (ad 11 0) lt, wSd (ad 12 1) (ad 13 0) (ad 14 0) sv, wCopy V (ad 13) A, wCopy V (ad 14) B, wHi (ad 12 2) (ad 12 3) (nI x) (nI s), wRs V (ad 12 3) 6 (fun j_ => ad (5 + j_) 0), wRing V (ad 5) (Hs 0), wRing V (ad 6) (Hs 1), wRing V (ad 7) (Hs 2), wRing V (ad 8) (Hs 3), wRing V (ad 9) (Hs 4), wRing V (ad 10) (Hs 5), wRs V (ad 12 4) 2 (fun j_ => ad (3 + j_) 0), wRing V (ad 3) X3, wRing V (ad 4) X4, wKz V (ad 12 5) kp, wSight V (ad 15) U, wSusp V (ad 16) Y])) := by
  refine CI_intro (by decide) (Nat.le_of_ble_eq_true rfl) (fun K cx hret => ?_)
  show G V K 3 0 0 ((List.flatten [wMain ad, wRing V (ad 0) X0, wRing V (ad 1) X1, wRing V (ad 2) X2, wTx V (ad 11) L (nI z) b c d u, wRd (ad 12 0) (ad 11 0) lt, wSd (ad 12 1) (ad 13 0) (ad 14 0) sv, wCopy V (ad 13) A, wCopy V (ad 14) B, wHi (ad 12 2) (ad 12 3) (nI x) (nI s), wRs V (ad 12 3) 6 (fun j_ => ad (5 + j_) 0), wRing V (ad 5) (Hs 0), wRing V (ad 6) (Hs 1), wRing V (ad 7) (Hs 2), wRing V (ad 8) (Hs 3), wRing V (ad 9) (Hs 4), wRing V (ad 10) (Hs 5), wRs V (ad 12 4) 2 (fun j_ => ad (3 + j_) 0), wRing V (ad 3) X3, wRing V (ad 4) X4, wKz V (ad 12 5) kp, wSight V (ad 15) U, wSusp V (ad 16) Y])) 0 [(0, .ref (ad 12 6)), (1, .int l), (2, .int w)] []
  obtain ⟨hz, hx, hs, hn, hn6, hn1, ho, ho4, hm, hm7, hat, hbR, hbH, hbI, hk, hk6, hU⟩ := hC
  refine g_aload_n (v := ad 12 6) cx dX8_drive_0 rfl ?_
  refine b_get (v := .ref (ad 0 0)) cx fk_X8_10 dX8_drive_1 0 0 rfl rfl rfl ?_
  refine g_iload_n (v := l) cx dX8_drive_4 rfl ?_
  refine b_calli (r0 := bI (¬ l < 0 ∧ ¬ X0 5 0 ≤ l)) (Ws' := [wMain ad, wRing V (ad 0) X0, wRing V (ad 1) X1, wRing V (ad 2) X2, wTx V (ad 11) L (nI z) b c d u, wRd (ad 12 0) (ad 11 0) lt, wSd (ad 12 1) (ad 13 0) (ad 14 0) sv, wCopy V (ad 13) A, wCopy V (ad 14) B, wHi (ad 12 2) (ad 12 3) (nI x) (nI s), wRs V (ad 12 3) 6 (fun j_ => ad (5 + j_) 0), wRing V (ad 5) (Hs 0), wRing V (ad 6) (Hs 1), wRing V (ad 7) (Hs 2), wRing V (ad 8) (Hs 3), wRing V (ad 9) (Hs 4), wRing V (ad 10) (Hs 5), wRs V (ad 12 4) 2 (fun j_ => ad (3 + j_) 0), wRing V (ad 3) X3, wRing V (ad 4) X4, wKz V (ad 12 5) kp, wSight V (ad 15) U, wSusp V (ad 16) Y]) (wcs := [wRing V (ad 0) X0]) (wos := [wRing V (ad 0) X0]) (As := [.int l]) (rest := []) cx (c_X3_hasDrive V (ad 0) X0 l) ml_X8_133 dX8_drive_5 [1] rfl rfl (List.append_nil _) (List.append_nil _) [[ad 0 0, ad 0 1, ad 0 2, ad 0 3, ad 0 4, ad 0 5]] rfl rfl rfl 0 0 3 rfl rfl rfl rfl rfl rfl (Nat.le_of_ble_eq_true rfl) ⟨Nat.le_of_ble_eq_true rfl, Nat.le_of_ble_eq_true rfl⟩ ⟨Nat.le_refl _, Nat.le_refl _⟩ ?_
  refine g_if_eq_b cx 21 dX8_drive_8 (by decide) (fun hw1 => absurd (⟨rf_ltMN hl (b := 0) (nl 0) (by omega) (by omega) (by omega), by rw [hn]; exact rf_leMN (a := n) rfl hl (by omega) (by omega) (by omega)⟩) hw1) (fun hw1 => ?_)
  refine g_iload_n (v := w) cx dX8_drive_11 rfl ?_
  refine g_if_lt cx 21 dX8_drive_12 (by decide) (fun hw2 => absurd hw2 (rf_ltMN hw (nl 0) (by omega) (by omega) (by omega))) (fun hw2 => ?_)
  refine g_iload_n (v := w) cx dX8_drive_15 rfl ?_
  refine g_bipush (v := 9) cx dX8_drive_16 (by decide) ?_
  refine g_icmp_le cx 24 dX8_drive_18 (by decide) (fun hw3 => ?_) (fun hw3 => absurd (rf_leMP hw (nl 9) (by omega) (by omega) (by omega)) hw3)
  refine g_iload_n (v := w) cx dX8_drive_24 rfl ?_
  refine g_bipush (v := 9) cx dX8_drive_25 (by decide) ?_
  refine g_icmp_ne cx 41 dX8_drive_27 (by decide) (fun hw4 => ?_) (fun hw4 => absurd hw4 (rf_eqMN hw (nl 9) (by omega) (by omega) (by omega)))
  refine g_aload_n (v := ad 12 6) cx dX8_drive_41 rfl ?_
  refine b_get (v := .ref (ad 0 0)) cx fk_X8_10 dX8_drive_42 0 0 rfl rfl rfl ?_
  refine g_iload_n (v := l) cx dX8_drive_45 rfl ?_
  refine g_iload_n (v := w) cx dX8_drive_46 rfl ?_
  refine b_calli (r0 := X0 0 (q * 9 + t)) (Ws' := [wMain ad, wRing V (ad 0) X0, wRing V (ad 1) X1, wRing V (ad 2) X2, wTx V (ad 11) L (nI z) b c d u, wRd (ad 12 0) (ad 11 0) lt, wSd (ad 12 1) (ad 13 0) (ad 14 0) sv, wCopy V (ad 13) A, wCopy V (ad 14) B, wHi (ad 12 2) (ad 12 3) (nI x) (nI s), wRs V (ad 12 3) 6 (fun j_ => ad (5 + j_) 0), wRing V (ad 5) (Hs 0), wRing V (ad 6) (Hs 1), wRing V (ad 7) (Hs 2), wRing V (ad 8) (Hs 3), wRing V (ad 9) (Hs 4), wRing V (ad 10) (Hs 5), wRs V (ad 12 4) 2 (fun j_ => ad (3 + j_) 0), wRing V (ad 3) X3, wRing V (ad 4) X4, wKz V (ad 12 5) kp, wSight V (ad 15) U, wSusp V (ad 16) Y]) (wcs := [wRing V (ad 0) X0]) (wos := [wRing V (ad 0) X0]) (As := [.int l, .int w]) (rest := []) cx (c_X3_ofDrive V (ad 0) X0 l w (q * 9 + t) (rf_add (rf_mul hl rfl) hw) (by omega)) ml_X8_136 dX8_drive_47 [1] rfl rfl (List.append_nil _) (List.append_nil _) [[ad 0 0, ad 0 1, ad 0 2, ad 0 3, ad 0 4, ad 0 5]] rfl rfl rfl 0 0 3 rfl rfl rfl rfl rfl rfl (Nat.le_of_ble_eq_true rfl) ⟨Nat.le_of_ble_eq_true rfl, Nat.le_of_ble_eq_true rfl⟩ ⟨Nat.le_refl _, Nat.le_refl _⟩ ?_
  exact hret _ _ _ _ dX8_drive_50 (rfl) ⟨rfl, rfl⟩
def rm_X8_link_bad : Room := { frames := 2, cells := 0, slots := 0, locals := 41 }
set_option maxRecDepth 100000 in
set_option maxHeartbeats 4000000 in
theorem c_X8_link_bad (V : VT) (ad : Nat → Nat → Nat) (X0 X1 X2 X3 X4 : S2) (Hs : Nat → S2) (L : Nat → Int32) (z : Nat) (b c d u lt sv : Int32) (A B : S2) (x s : Nat) (kp : Nat → Int32) (U Y : S2) (n o m k : Nat) (hC : okC X0 X3 X4 Hs z x s n o m k U) (l w : Int32) (hb : ¬ ((¬ l < 0 ∧ ¬ rLinks X0 ≤ l) ∧ ¬ w < 0 ∧ w < 2)) : CI V yX8_link cX8_link 3 .int rm_X8_link_bad [.ref (ad 12 6), .int l, .int w] ((List.flatten [wMain ad, wRing V (ad 0) X0, wRing V (ad 1) X1, wRing V (ad 2) X2, wTx V (ad 11) L (nI z) b c d u, wRd (ad 12 0) (ad 11 0) lt, wSd (ad 12 1) (ad 13 0) (ad 14 0) sv, wCopy V (ad 13) A, wCopy V (ad 14) B, wHi (ad 12 2) (ad 12 3) (nI x) (nI s), wRs V (ad 12 3) 6 (fun j_ => ad (5 + j_) 0), wRing V (ad 5) (Hs 0), wRing V (ad 6) (Hs 1), wRing V (ad 7) (Hs 2), wRing V (ad 8) (Hs 3), wRing V (ad 9) (Hs 4), wRing V (ad 10) (Hs 5), wRs V (ad 12 4) 2 (fun j_ => ad (3 + j_) 0), wRing V (ad 3) X3, wRing V (ad 4) X4, wKz V (ad 12 5) kp, wSight V (ad 15) U, wSusp V (ad 16) Y])) (fun r_ w_ => r_ = (-1) ∧ w_ = (List.flatten [wMain ad, wRing V (ad 0) X0, wRing V (ad 1) X1, wRing V (ad 2) X2, wTx V (ad 11) L (nI z) b c d u, wRd (ad 12 0) (ad 11 0) lt, wSd (ad 12 1) (ad 13 0) (ad 14 0) sv, wCopy V (ad 13) A, wCopy V (ad 14) B, wHi (ad 12 2) (ad 12 3) (nI x) (nI s), wRs V (ad 12 3) 6 (fun j_ => ad (5 + j_) 0), wRing V (ad 5) (Hs 0), wRing V (ad 6) (Hs 1), wRing V (ad 7) (Hs 2), wRing V (ad 8) (Hs 3), wRing V (ad 9) (Hs 4), wRing V (ad 10) (Hs 5), wRs V (ad 12 4) 2 (fun j_ => ad (3 + j_) 0), wRing V (ad 3) X3, wRing V (ad 4) X4, wKz V (ad 12 5) kp, wSight V (ad 15) U, wSusp V (ad 16) Y])) := by
  refine CI_intro (by decide) (Nat.le_of_ble_eq_true rfl) (fun K cx hret => ?_)
  show G V K 3 0 0 ((List.flatten [wMain ad, wRing V (ad 0) X0, wRing V (ad 1) X1, wRing V (ad 2) X2, wTx V (ad 11) L (nI z) b c d u, wRd (ad 12 0) (ad 11 0) lt, wSd (ad 12 1) (ad 13 0) (ad 14 0) sv, wCopy V (ad 13) A, wCopy V (ad 14) B, wHi (ad 12 2) (ad 12 3) (nI x) (nI s), wRs V (ad 12 3) 6 (fun j_ => ad (5 + j_) 0), wRing V (ad 5) (Hs 0), wRing V (ad 6) (Hs 1), wRing V (ad 7) (Hs 2), wRing V (ad 8) (Hs 3), wRing V (ad 9) (Hs 4), wRing V (ad 10) (Hs 5), wRs V (ad 12 4) 2 (fun j_ => ad (3 + j_) 0), wRing V (ad 3) X3, wRing V (ad 4) X4, wKz V (ad 12 5) kp, wSight V (ad 15) U, wSusp V (ad 16) Y])) 0 [(0, .ref (ad 12 6)), (1, .int l), (2, .int w)] []
  obtain ⟨hz, hx, hs, hn, hn6, hn1, ho, ho4, hm, hm7, hat, hbR, hbH, hbI, hk, hk6, hU⟩ := hC
  refine g_aload_n (v := ad 12 6) cx dX8_link_0 rfl ?_
  refine b_get (v := .ref (ad 0 0)) cx fk_X8_10 dX8_link_1 0 0 rfl rfl rfl ?_
  refine g_iload_n (v := l) cx dX8_link_4 rfl ?_
  refine b_calli (r0 := bI (¬ l < 0 ∧ ¬ rLinks X0 ≤ l)) (Ws' := [wMain ad, wRing V (ad 0) X0, wRing V (ad 1) X1, wRing V (ad 2) X2, wTx V (ad 11) L (nI z) b c d u, wRd (ad 12 0) (ad 11 0) lt, wSd (ad 12 1) (ad 13 0) (ad 14 0) sv, wCopy V (ad 13) A, wCopy V (ad 14) B, wHi (ad 12 2) (ad 12 3) (nI x) (nI s), wRs V (ad 12 3) 6 (fun j_ => ad (5 + j_) 0), wRing V (ad 5) (Hs 0), wRing V (ad 6) (Hs 1), wRing V (ad 7) (Hs 2), wRing V (ad 8) (Hs 3), wRing V (ad 9) (Hs 4), wRing V (ad 10) (Hs 5), wRs V (ad 12 4) 2 (fun j_ => ad (3 + j_) 0), wRing V (ad 3) X3, wRing V (ad 4) X4, wKz V (ad 12 5) kp, wSight V (ad 15) U, wSusp V (ad 16) Y]) (wcs := [wRing V (ad 0) X0]) (wos := [wRing V (ad 0) X0]) (As := [.int l]) (rest := []) cx (c_X3_hasLink V (ad 0) X0 l) ml_X8_108 dX8_link_5 [1] rfl rfl (List.append_nil _) (List.append_nil _) [[ad 0 0, ad 0 1, ad 0 2, ad 0 3, ad 0 4, ad 0 5]] rfl rfl rfl 0 0 3 rfl rfl rfl rfl rfl rfl (Nat.le_of_ble_eq_true rfl) ⟨Nat.le_of_ble_eq_true rfl, Nat.le_of_ble_eq_true rfl⟩ ⟨Nat.le_refl _, Nat.le_refl _⟩ ?_
  refine g_if_eq_b cx 20 dX8_link_8 (by decide) (fun hw1 => ?_) (fun hw1 => ?_)
  · skip
    refine g_iconst (v := (-1)) cx dX8_link_20 (by decide) ?_
    exact hret _ _ _ _ dX8_link_21 (rfl) ⟨rfl, rfl⟩
  · skip
    refine g_iload_n (v := w) cx dX8_link_11 rfl ?_
    refine g_if_lt cx 20 dX8_link_12 (by decide) (fun hw2 => ?_) (fun hw2 => ?_)
    · skip
      refine g_iconst (v := (-1)) cx dX8_link_20 (by decide) ?_
      exact hret _ _ _ _ dX8_link_21 (rfl) ⟨rfl, rfl⟩
    · skip
      refine g_iload_n (v := w) cx dX8_link_15 rfl ?_
      refine g_iconst (v := 2) cx dX8_link_16 (by decide) ?_
      refine g_icmp_lt cx 22 dX8_link_17 (by decide) (fun hw3 => ?_) (fun hw3 => ?_)
      · skip
        exact absurd ⟨hw1, hw2, hw3⟩ hb
      · skip
        refine g_iconst (v := (-1)) cx dX8_link_20 (by decide) ?_
        exact hret _ _ _ _ dX8_link_21 (rfl) ⟨rfl, rfl⟩
def rm_X8_link_ok : Room := { frames := 2, cells := 0, slots := 0, locals := 41 }
set_option maxRecDepth 100000 in
set_option maxHeartbeats 4000000 in
theorem c_X8_link_ok (V : VT) (ad : Nat → Nat → Nat) (X0 X1 X2 X3 X4 : S2) (Hs : Nat → S2) (L : Nat → Int32) (z : Nat) (b c d u lt sv : Int32) (A B : S2) (x s : Nat) (kp : Nat → Int32) (U Y : S2) (n o m k : Nat) (hC : okC X0 X3 X4 Hs z x s n o m k U) (l w : Int32) (q t : Nat) (hl : l = nI q) (hq : q < m) (hw : w = nI t) (ht : t < 2) : CI V yX8_link cX8_link 3 .int rm_X8_link_ok [.ref (ad 12 6), .int l, .int w] ((List.flatten [wMain ad, wRing V (ad 0) X0, wRing V (ad 1) X1, wRing V (ad 2) X2, wTx V (ad 11) L (nI z) b c d u, wRd (ad 12 0) (ad 11 0) lt, wSd (ad 12 1) (ad 13 0) (ad 14 0) sv, wCopy V (ad 13) A, wCopy V (ad 14) B, wHi (ad 12 2) (ad 12 3) (nI x) (nI s), wRs V (ad 12 3) 6 (fun j_ => ad (5 + j_) 0), wRing V (ad 5) (Hs 0), wRing V (ad 6) (Hs 1), wRing V (ad 7) (Hs 2), wRing V (ad 8) (Hs 3), wRing V (ad 9) (Hs 4), wRing V (ad 10) (Hs 5), wRs V (ad 12 4) 2 (fun j_ => ad (3 + j_) 0), wRing V (ad 3) X3, wRing V (ad 4) X4, wKz V (ad 12 5) kp, wSight V (ad 15) U, wSusp V (ad 16) Y])) (fun r_ w_ => r_ = X0 1 (q * 2 + t) ∧ w_ = (List.flatten [wMain ad, wRing V (ad 0) X0, wRing V (ad 1) X1, wRing V (ad 2) X2, wTx V (ad 11) L (nI z) b c d u, wRd (ad 12 0) (ad 11 0) lt, wSd (ad 12 1) (ad 13 0) (ad 14 0) sv, wCopy V (ad 13) A, wCopy V (ad 14) B, wHi (ad 12 2) (ad 12 3) (nI x) (nI s), wRs V (ad 12 3) 6 (fun j_ => ad (5 + j_) 0), wRing V (ad 5) (Hs 0), wRing V (ad 6) (Hs 1), wRing V (ad 7) (Hs 2), wRing V (ad 8) (Hs 3), wRing V (ad 9) (Hs 4), wRing V (ad 10) (Hs 5), wRs V (ad 12 4) 2 (fun j_ => ad (3 + j_) 0), wRing V (ad 3) X3, wRing V (ad 4) X4, wKz V (ad 12 5) kp, wSight V (ad 15) U, wSusp V (ad 16) Y])) := by
  refine CI_intro (by decide) (Nat.le_of_ble_eq_true rfl) (fun K cx hret => ?_)
  show G V K 3 0 0 ((List.flatten [wMain ad, wRing V (ad 0) X0, wRing V (ad 1) X1, wRing V (ad 2) X2, wTx V (ad 11) L (nI z) b c d u, wRd (ad 12 0) (ad 11 0) lt, wSd (ad 12 1) (ad 13 0) (ad 14 0) sv, wCopy V (ad 13) A, wCopy V (ad 14) B, wHi (ad 12 2) (ad 12 3) (nI x) (nI s), wRs V (ad 12 3) 6 (fun j_ => ad (5 + j_) 0), wRing V (ad 5) (Hs 0), wRing V (ad 6) (Hs 1), wRing V (ad 7) (Hs 2), wRing V (ad 8) (Hs 3), wRing V (ad 9) (Hs 4), wRing V (ad 10) (Hs 5), wRs V (ad 12 4) 2 (fun j_ => ad (3 + j_) 0), wRing V (ad 3) X3, wRing V (ad 4) X4, wKz V (ad 12 5) kp, wSight V (ad 15) U, wSusp V (ad 16) Y])) 0 [(0, .ref (ad 12 6)), (1, .int l), (2, .int w)] []
  obtain ⟨hz, hx, hs, hn, hn6, hn1, ho, ho4, hm, hm7, hat, hbR, hbH, hbI, hk, hk6, hU⟩ := hC
  refine g_aload_n (v := ad 12 6) cx dX8_link_0 rfl ?_
  refine b_get (v := .ref (ad 0 0)) cx fk_X8_10 dX8_link_1 0 0 rfl rfl rfl ?_
  refine g_iload_n (v := l) cx dX8_link_4 rfl ?_
  refine b_calli (r0 := bI (¬ l < 0 ∧ ¬ rLinks X0 ≤ l)) (Ws' := [wMain ad, wRing V (ad 0) X0, wRing V (ad 1) X1, wRing V (ad 2) X2, wTx V (ad 11) L (nI z) b c d u, wRd (ad 12 0) (ad 11 0) lt, wSd (ad 12 1) (ad 13 0) (ad 14 0) sv, wCopy V (ad 13) A, wCopy V (ad 14) B, wHi (ad 12 2) (ad 12 3) (nI x) (nI s), wRs V (ad 12 3) 6 (fun j_ => ad (5 + j_) 0), wRing V (ad 5) (Hs 0), wRing V (ad 6) (Hs 1), wRing V (ad 7) (Hs 2), wRing V (ad 8) (Hs 3), wRing V (ad 9) (Hs 4), wRing V (ad 10) (Hs 5), wRs V (ad 12 4) 2 (fun j_ => ad (3 + j_) 0), wRing V (ad 3) X3, wRing V (ad 4) X4, wKz V (ad 12 5) kp, wSight V (ad 15) U, wSusp V (ad 16) Y]) (wcs := [wRing V (ad 0) X0]) (wos := [wRing V (ad 0) X0]) (As := [.int l]) (rest := []) cx (c_X3_hasLink V (ad 0) X0 l) ml_X8_108 dX8_link_5 [1] rfl rfl (List.append_nil _) (List.append_nil _) [[ad 0 0, ad 0 1, ad 0 2, ad 0 3, ad 0 4, ad 0 5]] rfl rfl rfl 0 0 3 rfl rfl rfl rfl rfl rfl (Nat.le_of_ble_eq_true rfl) ⟨Nat.le_of_ble_eq_true rfl, Nat.le_of_ble_eq_true rfl⟩ ⟨Nat.le_refl _, Nat.le_refl _⟩ ?_
  refine g_if_eq_b cx 20 dX8_link_8 (by decide) (fun hw1 => absurd (⟨rf_ltMN hl (b := 0) (nl 0) (by omega) (by omega) (by omega), by rw [hm]; exact rf_leMN (a := m) rfl hl (by omega) (by omega) (by omega)⟩) hw1) (fun hw1 => ?_)
  refine g_iload_n (v := w) cx dX8_link_11 rfl ?_
  refine g_if_lt cx 20 dX8_link_12 (by decide) (fun hw2 => absurd hw2 (rf_ltMN hw (nl 0) (by omega) (by omega) (by omega))) (fun hw2 => ?_)
  refine g_iload_n (v := w) cx dX8_link_15 rfl ?_
  refine g_iconst (v := 2) cx dX8_link_16 (by decide) ?_
  refine g_icmp_lt cx 22 dX8_link_17 (by decide) (fun hw3 => ?_) (fun hw3 => absurd (rf_ltMP hw (nl 2) (by omega) (by omega) (by omega)) hw3)
  refine g_aload_n (v := ad 12 6) cx dX8_link_22 rfl ?_
  refine b_get (v := .ref (ad 0 0)) cx fk_X8_10 dX8_link_23 0 0 rfl rfl rfl ?_
  refine g_iload_n (v := l) cx dX8_link_26 rfl ?_
  refine g_iload_n (v := w) cx dX8_link_27 rfl ?_
  refine b_calli (r0 := X0 1 (q * 2 + t)) (Ws' := [wMain ad, wRing V (ad 0) X0, wRing V (ad 1) X1, wRing V (ad 2) X2, wTx V (ad 11) L (nI z) b c d u, wRd (ad 12 0) (ad 11 0) lt, wSd (ad 12 1) (ad 13 0) (ad 14 0) sv, wCopy V (ad 13) A, wCopy V (ad 14) B, wHi (ad 12 2) (ad 12 3) (nI x) (nI s), wRs V (ad 12 3) 6 (fun j_ => ad (5 + j_) 0), wRing V (ad 5) (Hs 0), wRing V (ad 6) (Hs 1), wRing V (ad 7) (Hs 2), wRing V (ad 8) (Hs 3), wRing V (ad 9) (Hs 4), wRing V (ad 10) (Hs 5), wRs V (ad 12 4) 2 (fun j_ => ad (3 + j_) 0), wRing V (ad 3) X3, wRing V (ad 4) X4, wKz V (ad 12 5) kp, wSight V (ad 15) U, wSusp V (ad 16) Y]) (wcs := [wRing V (ad 0) X0]) (wos := [wRing V (ad 0) X0]) (As := [.int l, .int w]) (rest := []) cx (c_X3_ofLink V (ad 0) X0 l w (q * 2 + t) (rf_add (rf_mul hl rfl) hw) (by omega)) ml_X8_166 dX8_link_28 [1] rfl rfl (List.append_nil _) (List.append_nil _) [[ad 0 0, ad 0 1, ad 0 2, ad 0 3, ad 0 4, ad 0 5]] rfl rfl rfl 0 0 3 rfl rfl rfl rfl rfl rfl (Nat.le_of_ble_eq_true rfl) ⟨Nat.le_of_ble_eq_true rfl, Nat.le_of_ble_eq_true rfl⟩ ⟨Nat.le_refl _, Nat.le_refl _⟩ ?_
  exact hret _ _ _ _ dX8_link_31 (rfl) ⟨rfl, rfl⟩
def rm_X8_order_bad : Room := { frames := 1, cells := 0, slots := 0, locals := 21 }
set_option maxRecDepth 100000 in
set_option maxHeartbeats 4000000 in
theorem c_X8_order_bad (V : VT) (ad : Nat → Nat → Nat) (X0 X1 X2 X3 X4 : S2) (Hs : Nat → S2) (L : Nat → Int32) (z : Nat) (b c d u lt sv : Int32) (A B : S2) (x s : Nat) (kp : Nat → Int32) (U Y : S2) (n o m k : Nat) (hC : okC X0 X3 X4 Hs z x s n o m k U) (l w : Int32) (hb : ¬ ((¬ l < 0 ∧ ¬ X0 5 1 ≤ l) ∧ ¬ w < 0 ∧ w < 5)) : CI V yX8_order cX8_order 3 .int rm_X8_order_bad [.ref (ad 12 6), .int l, .int w] ((List.flatten [wMain ad, wRing V (ad 0) X0, wRing V (ad 1) X1, wRing V (ad 2) X2, wTx V (ad 11) L (nI z) b c d u, wRd (ad 12 0) (ad 11 0) lt, wSd (ad 12 1) (ad 13 0) (ad 14 0) sv, wCopy V (ad 13) A, wCopy V (ad 14) B, wHi (ad 12 2) (ad 12 3) (nI x) (nI s), wRs V (ad 12 3) 6 (fun j_ => ad (5 + j_) 0), wRing V (ad 5) (Hs 0), wRing V (ad 6) (Hs 1), wRing V (ad 7) (Hs 2), wRing V (ad 8) (Hs 3), wRing V (ad 9) (Hs 4), wRing V (ad 10) (Hs 5), wRs V (ad 12 4) 2 (fun j_ => ad (3 + j_) 0), wRing V (ad 3) X3, wRing V (ad 4) X4, wKz V (ad 12 5) kp, wSight V (ad 15) U, wSusp V (ad 16) Y])) (fun r_ w_ => r_ = (-1) ∧ w_ = (List.flatten [wMain ad, wRing V (ad 0) X0, wRing V (ad 1) X1, wRing V (ad 2) X2, wTx V (ad 11) L (nI z) b c d u, wRd (ad 12 0) (ad 11 0) lt, wSd (ad 12 1) (ad 13 0) (ad 14 0) sv, wCopy V (ad 13) A, wCopy V (ad 14) B, wHi (ad 12 2) (ad 12 3) (nI x) (nI s), wRs V (ad 12 3) 6 (fun j_ => ad (5 + j_) 0), wRing V (ad 5) (Hs 0), wRing V (ad 6) (Hs 1), wRing V (ad 7) (Hs 2), wRing V (ad 8) (Hs 3), wRing V (ad 9) (Hs 4), wRing V (ad 10) (Hs 5), wRs V (ad 12 4) 2 (fun j_ => ad (3 + j_) 0), wRing V (ad 3) X3, wRing V (ad 4) X4, wKz V (ad 12 5) kp, wSight V (ad 15) U, wSusp V (ad 16) Y])) := by
  refine CI_intro (by decide) (Nat.le_of_ble_eq_true rfl) (fun K cx hret => ?_)
  show G V K 3 0 0 ((List.flatten [wMain ad, wRing V (ad 0) X0, wRing V (ad 1) X1, wRing V (ad 2) X2, wTx V (ad 11) L (nI z) b c d u, wRd (ad 12 0) (ad 11 0) lt, wSd (ad 12 1) (ad 13 0) (ad 14 0) sv, wCopy V (ad 13) A, wCopy V (ad 14) B, wHi (ad 12 2) (ad 12 3) (nI x) (nI s), wRs V (ad 12 3) 6 (fun j_ => ad (5 + j_) 0), wRing V (ad 5) (Hs 0), wRing V (ad 6) (Hs 1), wRing V (ad 7) (Hs 2), wRing V (ad 8) (Hs 3), wRing V (ad 9) (Hs 4), wRing V (ad 10) (Hs 5), wRs V (ad 12 4) 2 (fun j_ => ad (3 + j_) 0), wRing V (ad 3) X3, wRing V (ad 4) X4, wKz V (ad 12 5) kp, wSight V (ad 15) U, wSusp V (ad 16) Y])) 0 [(0, .ref (ad 12 6)), (1, .int l), (2, .int w)] []
  obtain ⟨hz, hx, hs, hn, hn6, hn1, ho, ho4, hm, hm7, hat, hbR, hbH, hbI, hk, hk6, hU⟩ := hC
  refine g_aload_n (v := ad 12 6) cx dX8_order_0 rfl ?_
  refine b_get (v := .ref (ad 0 0)) cx fk_X8_10 dX8_order_1 0 0 rfl rfl rfl ?_
  refine g_iload_n (v := l) cx dX8_order_4 rfl ?_
  refine b_calli (r0 := bI (¬ l < 0 ∧ ¬ X0 5 1 ≤ l)) (Ws' := [wMain ad, wRing V (ad 0) X0, wRing V (ad 1) X1, wRing V (ad 2) X2, wTx V (ad 11) L (nI z) b c d u, wRd (ad 12 0) (ad 11 0) lt, wSd (ad 12 1) (ad 13 0) (ad 14 0) sv, wCopy V (ad 13) A, wCopy V (ad 14) B, wHi (ad 12 2) (ad 12 3) (nI x) (nI s), wRs V (ad 12 3) 6 (fun j_ => ad (5 + j_) 0), wRing V (ad 5) (Hs 0), wRing V (ad 6) (Hs 1), wRing V (ad 7) (Hs 2), wRing V (ad 8) (Hs 3), wRing V (ad 9) (Hs 4), wRing V (ad 10) (Hs 5), wRs V (ad 12 4) 2 (fun j_ => ad (3 + j_) 0), wRing V (ad 3) X3, wRing V (ad 4) X4, wKz V (ad 12 5) kp, wSight V (ad 15) U, wSusp V (ad 16) Y]) (wcs := [wRing V (ad 0) X0]) (wos := [wRing V (ad 0) X0]) (As := [.int l]) (rest := []) cx (c_X3_hasOrder V (ad 0) X0 l) ml_X8_169 dX8_order_5 [1] rfl rfl (List.append_nil _) (List.append_nil _) [[ad 0 0, ad 0 1, ad 0 2, ad 0 3, ad 0 4, ad 0 5]] rfl rfl rfl 0 0 3 rfl rfl rfl rfl rfl rfl (Nat.le_of_ble_eq_true rfl) ⟨Nat.le_of_ble_eq_true rfl, Nat.le_of_ble_eq_true rfl⟩ ⟨Nat.le_refl _, Nat.le_refl _⟩ ?_
  refine g_if_eq_b cx 20 dX8_order_8 (by decide) (fun hw1 => ?_) (fun hw1 => ?_)
  · skip
    refine g_iconst (v := (-1)) cx dX8_order_20 (by decide) ?_
    exact hret _ _ _ _ dX8_order_21 (rfl) ⟨rfl, rfl⟩
  · skip
    refine g_iload_n (v := w) cx dX8_order_11 rfl ?_
    refine g_if_lt cx 20 dX8_order_12 (by decide) (fun hw2 => ?_) (fun hw2 => ?_)
    · skip
      refine g_iconst (v := (-1)) cx dX8_order_20 (by decide) ?_
      exact hret _ _ _ _ dX8_order_21 (rfl) ⟨rfl, rfl⟩
    · skip
      refine g_iload_n (v := w) cx dX8_order_15 rfl ?_
      refine g_iconst (v := 5) cx dX8_order_16 (by decide) ?_
      refine g_icmp_lt cx 22 dX8_order_17 (by decide) (fun hw3 => ?_) (fun hw3 => ?_)
      · skip
        exact absurd ⟨hw1, hw2, hw3⟩ hb
      · skip
        refine g_iconst (v := (-1)) cx dX8_order_20 (by decide) ?_
        exact hret _ _ _ _ dX8_order_21 (rfl) ⟨rfl, rfl⟩
def rm_X8_order_ok : Room := { frames := 1, cells := 0, slots := 0, locals := 22 }
set_option maxRecDepth 100000 in
set_option maxHeartbeats 4000000 in
theorem c_X8_order_ok (V : VT) (ad : Nat → Nat → Nat) (X0 X1 X2 X3 X4 : S2) (Hs : Nat → S2) (L : Nat → Int32) (z : Nat) (b c d u lt sv : Int32) (A B : S2) (x s : Nat) (kp : Nat → Int32) (U Y : S2) (n o m k : Nat) (hC : okC X0 X3 X4 Hs z x s n o m k U) (l w : Int32) (q t : Nat) (hl : l = nI q) (hq : q < o) (hw : w = nI t) (ht : t < 5) : CI V yX8_order cX8_order 3 .int rm_X8_order_ok [.ref (ad 12 6), .int l, .int w] ((List.flatten [wMain ad, wRing V (ad 0) X0, wRing V (ad 1) X1, wRing V (ad 2) X2, wTx V (ad 11) L (nI z) b c d u, wRd (ad 12 0) (ad 11 0) lt, wSd (ad 12 1) (ad 13 0) (ad 14 0) sv, wCopy V (ad 13) A, wCopy V (ad 14) B, wHi (ad 12 2) (ad 12 3) (nI x) (nI s), wRs V (ad 12 3) 6 (fun j_ => ad (5 + j_) 0), wRing V (ad 5) (Hs 0), wRing V (ad 6) (Hs 1), wRing V (ad 7) (Hs 2), wRing V (ad 8) (Hs 3), wRing V (ad 9) (Hs 4), wRing V (ad 10) (Hs 5), wRs V (ad 12 4) 2 (fun j_ => ad (3 + j_) 0), wRing V (ad 3) X3, wRing V (ad 4) X4, wKz V (ad 12 5) kp, wSight V (ad 15) U, wSusp V (ad 16) Y])) (fun r_ w_ => r_ = X0 2 (q * 5 + t) ∧ w_ = (List.flatten [wMain ad, wRing V (ad 0) X0, wRing V (ad 1) X1, wRing V (ad 2) X2, wTx V (ad 11) L (nI z) b c d u, wRd (ad 12 0) (ad 11 0) lt, wSd (ad 12 1) (ad 13 0) (ad 14 0) sv, wCopy V (ad 13) A, wCopy V (ad 14) B, wHi (ad 12 2) (ad 12 3) (nI x) (nI s), wRs V (ad 12 3) 6 (fun j_ => ad (5 + j_) 0), wRing V (ad 5) (Hs 0), wRing V (ad 6) (Hs 1), wRing V (ad 7) (Hs 2), wRing V (ad 8) (Hs 3), wRing V (ad 9) (Hs 4), wRing V (ad 10) (Hs 5), wRs V (ad 12 4) 2 (fun j_ => ad (3 + j_) 0), wRing V (ad 3) X3, wRing V (ad 4) X4, wKz V (ad 12 5) kp, wSight V (ad 15) U, wSusp V (ad 16) Y])) := by
  refine CI_intro (by decide) (Nat.le_of_ble_eq_true rfl) (fun K cx hret => ?_)
  show G V K 3 0 0 ((List.flatten [wMain ad, wRing V (ad 0) X0, wRing V (ad 1) X1, wRing V (ad 2) X2, wTx V (ad 11) L (nI z) b c d u, wRd (ad 12 0) (ad 11 0) lt, wSd (ad 12 1) (ad 13 0) (ad 14 0) sv, wCopy V (ad 13) A, wCopy V (ad 14) B, wHi (ad 12 2) (ad 12 3) (nI x) (nI s), wRs V (ad 12 3) 6 (fun j_ => ad (5 + j_) 0), wRing V (ad 5) (Hs 0), wRing V (ad 6) (Hs 1), wRing V (ad 7) (Hs 2), wRing V (ad 8) (Hs 3), wRing V (ad 9) (Hs 4), wRing V (ad 10) (Hs 5), wRs V (ad 12 4) 2 (fun j_ => ad (3 + j_) 0), wRing V (ad 3) X3, wRing V (ad 4) X4, wKz V (ad 12 5) kp, wSight V (ad 15) U, wSusp V (ad 16) Y])) 0 [(0, .ref (ad 12 6)), (1, .int l), (2, .int w)] []
  obtain ⟨hz, hx, hs, hn, hn6, hn1, ho, ho4, hm, hm7, hat, hbR, hbH, hbI, hk, hk6, hU⟩ := hC
  refine g_aload_n (v := ad 12 6) cx dX8_order_0 rfl ?_
  refine b_get (v := .ref (ad 0 0)) cx fk_X8_10 dX8_order_1 0 0 rfl rfl rfl ?_
  refine g_iload_n (v := l) cx dX8_order_4 rfl ?_
  refine b_calli (r0 := bI (¬ l < 0 ∧ ¬ X0 5 1 ≤ l)) (Ws' := [wMain ad, wRing V (ad 0) X0, wRing V (ad 1) X1, wRing V (ad 2) X2, wTx V (ad 11) L (nI z) b c d u, wRd (ad 12 0) (ad 11 0) lt, wSd (ad 12 1) (ad 13 0) (ad 14 0) sv, wCopy V (ad 13) A, wCopy V (ad 14) B, wHi (ad 12 2) (ad 12 3) (nI x) (nI s), wRs V (ad 12 3) 6 (fun j_ => ad (5 + j_) 0), wRing V (ad 5) (Hs 0), wRing V (ad 6) (Hs 1), wRing V (ad 7) (Hs 2), wRing V (ad 8) (Hs 3), wRing V (ad 9) (Hs 4), wRing V (ad 10) (Hs 5), wRs V (ad 12 4) 2 (fun j_ => ad (3 + j_) 0), wRing V (ad 3) X3, wRing V (ad 4) X4, wKz V (ad 12 5) kp, wSight V (ad 15) U, wSusp V (ad 16) Y]) (wcs := [wRing V (ad 0) X0]) (wos := [wRing V (ad 0) X0]) (As := [.int l]) (rest := []) cx (c_X3_hasOrder V (ad 0) X0 l) ml_X8_169 dX8_order_5 [1] rfl rfl (List.append_nil _) (List.append_nil _) [[ad 0 0, ad 0 1, ad 0 2, ad 0 3, ad 0 4, ad 0 5]] rfl rfl rfl 0 0 3 rfl rfl rfl rfl rfl rfl (Nat.le_of_ble_eq_true rfl) ⟨Nat.le_of_ble_eq_true rfl, Nat.le_of_ble_eq_true rfl⟩ ⟨Nat.le_refl _, Nat.le_refl _⟩ ?_
  refine g_if_eq_b cx 20 dX8_order_8 (by decide) (fun hw1 => absurd (⟨rf_ltMN hl (b := 0) (nl 0) (by omega) (by omega) (by omega), by rw [ho]; exact rf_leMN (a := o) rfl hl (by omega) (by omega) (by omega)⟩) hw1) (fun hw1 => ?_)
  refine g_iload_n (v := w) cx dX8_order_11 rfl ?_
  refine g_if_lt cx 20 dX8_order_12 (by decide) (fun hw2 => absurd hw2 (rf_ltMN hw (nl 0) (by omega) (by omega) (by omega))) (fun hw2 => ?_)
  refine g_iload_n (v := w) cx dX8_order_15 rfl ?_
  refine g_iconst (v := 5) cx dX8_order_16 (by decide) ?_
  refine g_icmp_lt cx 22 dX8_order_17 (by decide) (fun hw3 => ?_) (fun hw3 => absurd (rf_ltMP hw (nl 5) (by omega) (by omega) (by omega)) hw3)
  refine g_aload_n (v := ad 12 6) cx dX8_order_22 rfl ?_
  refine b_get (v := .ref (ad 0 0)) cx fk_X8_10 dX8_order_23 0 0 rfl rfl rfl ?_
  refine g_iload_n (v := l) cx dX8_order_26 rfl ?_
  refine g_iload_n (v := w) cx dX8_order_27 rfl ?_
  refine b_calli (r0 := X0 2 (q * 5 + t)) (Ws' := [wMain ad, wRing V (ad 0) X0, wRing V (ad 1) X1, wRing V (ad 2) X2, wTx V (ad 11) L (nI z) b c d u, wRd (ad 12 0) (ad 11 0) lt, wSd (ad 12 1) (ad 13 0) (ad 14 0) sv, wCopy V (ad 13) A, wCopy V (ad 14) B, wHi (ad 12 2) (ad 12 3) (nI x) (nI s), wRs V (ad 12 3) 6 (fun j_ => ad (5 + j_) 0), wRing V (ad 5) (Hs 0), wRing V (ad 6) (Hs 1), wRing V (ad 7) (Hs 2), wRing V (ad 8) (Hs 3), wRing V (ad 9) (Hs 4), wRing V (ad 10) (Hs 5), wRs V (ad 12 4) 2 (fun j_ => ad (3 + j_) 0), wRing V (ad 3) X3, wRing V (ad 4) X4, wKz V (ad 12 5) kp, wSight V (ad 15) U, wSusp V (ad 16) Y]) (wcs := [wRing V (ad 0) X0]) (wos := [wRing V (ad 0) X0]) (As := [.int l, .int w]) (rest := []) cx (c_X3_ofOrder V (ad 0) X0 l w (q * 5 + t) (rf_add (rf_mul hl rfl) hw) (by omega)) ml_X8_172 dX8_order_28 [1] rfl rfl (List.append_nil _) (List.append_nil _) [[ad 0 0, ad 0 1, ad 0 2, ad 0 3, ad 0 4, ad 0 5]] rfl rfl rfl 0 0 3 rfl rfl rfl rfl rfl rfl (Nat.le_of_ble_eq_true rfl) ⟨Nat.le_of_ble_eq_true rfl, Nat.le_of_ble_eq_true rfl⟩ ⟨Nat.le_refl _, Nat.le_refl _⟩ ?_
  exact hret _ _ _ _ dX8_order_31 (rfl) ⟨rfl, rfl⟩
def rm_X8_result_bad : Room := { frames := 1, cells := 0, slots := 0, locals := 21 }
set_option maxRecDepth 100000 in
set_option maxHeartbeats 4000000 in
theorem c_X8_result_bad (V : VT) (ad : Nat → Nat → Nat) (X0 X1 X2 X3 X4 : S2) (Hs : Nat → S2) (L : Nat → Int32) (z : Nat) (b c d u lt sv : Int32) (A B : S2) (x s : Nat) (kp : Nat → Int32) (U Y : S2) (n o m k : Nat) (hC : okC X0 X3 X4 Hs z x s n o m k U) (l w : Int32) (hb : ¬ ((¬ l < 0 ∧ ¬ X0 5 1 ≤ l) ∧ ¬ w < 0 ∧ w < 2)) : CI V yX8_result cX8_result 3 .int rm_X8_result_bad [.ref (ad 12 6), .int l, .int w] ((List.flatten [wMain ad, wRing V (ad 0) X0, wRing V (ad 1) X1, wRing V (ad 2) X2, wTx V (ad 11) L (nI z) b c d u, wRd (ad 12 0) (ad 11 0) lt, wSd (ad 12 1) (ad 13 0) (ad 14 0) sv, wCopy V (ad 13) A, wCopy V (ad 14) B, wHi (ad 12 2) (ad 12 3) (nI x) (nI s), wRs V (ad 12 3) 6 (fun j_ => ad (5 + j_) 0), wRing V (ad 5) (Hs 0), wRing V (ad 6) (Hs 1), wRing V (ad 7) (Hs 2), wRing V (ad 8) (Hs 3), wRing V (ad 9) (Hs 4), wRing V (ad 10) (Hs 5), wRs V (ad 12 4) 2 (fun j_ => ad (3 + j_) 0), wRing V (ad 3) X3, wRing V (ad 4) X4, wKz V (ad 12 5) kp, wSight V (ad 15) U, wSusp V (ad 16) Y])) (fun r_ w_ => r_ = (-1) ∧ w_ = (List.flatten [wMain ad, wRing V (ad 0) X0, wRing V (ad 1) X1, wRing V (ad 2) X2, wTx V (ad 11) L (nI z) b c d u, wRd (ad 12 0) (ad 11 0) lt, wSd (ad 12 1) (ad 13 0) (ad 14 0) sv, wCopy V (ad 13) A, wCopy V (ad 14) B, wHi (ad 12 2) (ad 12 3) (nI x) (nI s), wRs V (ad 12 3) 6 (fun j_ => ad (5 + j_) 0), wRing V (ad 5) (Hs 0), wRing V (ad 6) (Hs 1), wRing V (ad 7) (Hs 2), wRing V (ad 8) (Hs 3), wRing V (ad 9) (Hs 4), wRing V (ad 10) (Hs 5), wRs V (ad 12 4) 2 (fun j_ => ad (3 + j_) 0), wRing V (ad 3) X3, wRing V (ad 4) X4, wKz V (ad 12 5) kp, wSight V (ad 15) U, wSusp V (ad 16) Y])) := by
  refine CI_intro (by decide) (Nat.le_of_ble_eq_true rfl) (fun K cx hret => ?_)
  show G V K 3 0 0 ((List.flatten [wMain ad, wRing V (ad 0) X0, wRing V (ad 1) X1, wRing V (ad 2) X2, wTx V (ad 11) L (nI z) b c d u, wRd (ad 12 0) (ad 11 0) lt, wSd (ad 12 1) (ad 13 0) (ad 14 0) sv, wCopy V (ad 13) A, wCopy V (ad 14) B, wHi (ad 12 2) (ad 12 3) (nI x) (nI s), wRs V (ad 12 3) 6 (fun j_ => ad (5 + j_) 0), wRing V (ad 5) (Hs 0), wRing V (ad 6) (Hs 1), wRing V (ad 7) (Hs 2), wRing V (ad 8) (Hs 3), wRing V (ad 9) (Hs 4), wRing V (ad 10) (Hs 5), wRs V (ad 12 4) 2 (fun j_ => ad (3 + j_) 0), wRing V (ad 3) X3, wRing V (ad 4) X4, wKz V (ad 12 5) kp, wSight V (ad 15) U, wSusp V (ad 16) Y])) 0 [(0, .ref (ad 12 6)), (1, .int l), (2, .int w)] []
  obtain ⟨hz, hx, hs, hn, hn6, hn1, ho, ho4, hm, hm7, hat, hbR, hbH, hbI, hk, hk6, hU⟩ := hC
  refine g_aload_n (v := ad 12 6) cx dX8_result_0 rfl ?_
  refine b_get (v := .ref (ad 0 0)) cx fk_X8_10 dX8_result_1 0 0 rfl rfl rfl ?_
  refine g_iload_n (v := l) cx dX8_result_4 rfl ?_
  refine b_calli (r0 := bI (¬ l < 0 ∧ ¬ X0 5 1 ≤ l)) (Ws' := [wMain ad, wRing V (ad 0) X0, wRing V (ad 1) X1, wRing V (ad 2) X2, wTx V (ad 11) L (nI z) b c d u, wRd (ad 12 0) (ad 11 0) lt, wSd (ad 12 1) (ad 13 0) (ad 14 0) sv, wCopy V (ad 13) A, wCopy V (ad 14) B, wHi (ad 12 2) (ad 12 3) (nI x) (nI s), wRs V (ad 12 3) 6 (fun j_ => ad (5 + j_) 0), wRing V (ad 5) (Hs 0), wRing V (ad 6) (Hs 1), wRing V (ad 7) (Hs 2), wRing V (ad 8) (Hs 3), wRing V (ad 9) (Hs 4), wRing V (ad 10) (Hs 5), wRs V (ad 12 4) 2 (fun j_ => ad (3 + j_) 0), wRing V (ad 3) X3, wRing V (ad 4) X4, wKz V (ad 12 5) kp, wSight V (ad 15) U, wSusp V (ad 16) Y]) (wcs := [wRing V (ad 0) X0]) (wos := [wRing V (ad 0) X0]) (As := [.int l]) (rest := []) cx (c_X3_hasOrder V (ad 0) X0 l) ml_X8_169 dX8_result_5 [1] rfl rfl (List.append_nil _) (List.append_nil _) [[ad 0 0, ad 0 1, ad 0 2, ad 0 3, ad 0 4, ad 0 5]] rfl rfl rfl 0 0 3 rfl rfl rfl rfl rfl rfl (Nat.le_of_ble_eq_true rfl) ⟨Nat.le_of_ble_eq_true rfl, Nat.le_of_ble_eq_true rfl⟩ ⟨Nat.le_refl _, Nat.le_refl _⟩ ?_
  refine g_if_eq_b cx 20 dX8_result_8 (by decide) (fun hw1 => ?_) (fun hw1 => ?_)
  · skip
    refine g_iconst (v := (-1)) cx dX8_result_20 (by decide) ?_
    exact hret _ _ _ _ dX8_result_21 (rfl) ⟨rfl, rfl⟩
  · skip
    refine g_iload_n (v := w) cx dX8_result_11 rfl ?_
    refine g_if_lt cx 20 dX8_result_12 (by decide) (fun hw2 => ?_) (fun hw2 => ?_)
    · skip
      refine g_iconst (v := (-1)) cx dX8_result_20 (by decide) ?_
      exact hret _ _ _ _ dX8_result_21 (rfl) ⟨rfl, rfl⟩
    · skip
      refine g_iload_n (v := w) cx dX8_result_15 rfl ?_
      refine g_iconst (v := 2) cx dX8_result_16 (by decide) ?_
      refine g_icmp_lt cx 22 dX8_result_17 (by decide) (fun hw3 => ?_) (fun hw3 => ?_)
      · skip
        exact absurd ⟨hw1, hw2, hw3⟩ hb
      · skip
        refine g_iconst (v := (-1)) cx dX8_result_20 (by decide) ?_
        exact hret _ _ _ _ dX8_result_21 (rfl) ⟨rfl, rfl⟩
def rm_X8_result_none : Room := { frames := 1, cells := 0, slots := 0, locals := 21 }
set_option maxRecDepth 100000 in
set_option maxHeartbeats 4000000 in
theorem c_X8_result_none (V : VT) (ad : Nat → Nat → Nat) (X0 X1 X2 X3 X4 : S2) (Hs : Nat → S2) (L : Nat → Int32) (z : Nat) (b c d u lt sv : Int32) (A B : S2) (x s : Nat) (kp : Nat → Int32) (U Y : S2) (n o m k : Nat) (hC : okC X0 X3 X4 Hs z x s n o m k U) (l w : Int32) (q t : Nat) (hl : l = nI q) (hq : q < o) (hw : w = nI t) (ht : t < 2) (h1 : X0 5 5 = 0) : CI V yX8_result cX8_result 3 .int rm_X8_result_none [.ref (ad 12 6), .int l, .int w] ((List.flatten [wMain ad, wRing V (ad 0) X0, wRing V (ad 1) X1, wRing V (ad 2) X2, wTx V (ad 11) L (nI z) b c d u, wRd (ad 12 0) (ad 11 0) lt, wSd (ad 12 1) (ad 13 0) (ad 14 0) sv, wCopy V (ad 13) A, wCopy V (ad 14) B, wHi (ad 12 2) (ad 12 3) (nI x) (nI s), wRs V (ad 12 3) 6 (fun j_ => ad (5 + j_) 0), wRing V (ad 5) (Hs 0), wRing V (ad 6) (Hs 1), wRing V (ad 7) (Hs 2), wRing V (ad 8) (Hs 3), wRing V (ad 9) (Hs 4), wRing V (ad 10) (Hs 5), wRs V (ad 12 4) 2 (fun j_ => ad (3 + j_) 0), wRing V (ad 3) X3, wRing V (ad 4) X4, wKz V (ad 12 5) kp, wSight V (ad 15) U, wSusp V (ad 16) Y])) (fun r_ w_ => r_ = (-9) ∧ w_ = (List.flatten [wMain ad, wRing V (ad 0) X0, wRing V (ad 1) X1, wRing V (ad 2) X2, wTx V (ad 11) L (nI z) b c d u, wRd (ad 12 0) (ad 11 0) lt, wSd (ad 12 1) (ad 13 0) (ad 14 0) sv, wCopy V (ad 13) A, wCopy V (ad 14) B, wHi (ad 12 2) (ad 12 3) (nI x) (nI s), wRs V (ad 12 3) 6 (fun j_ => ad (5 + j_) 0), wRing V (ad 5) (Hs 0), wRing V (ad 6) (Hs 1), wRing V (ad 7) (Hs 2), wRing V (ad 8) (Hs 3), wRing V (ad 9) (Hs 4), wRing V (ad 10) (Hs 5), wRs V (ad 12 4) 2 (fun j_ => ad (3 + j_) 0), wRing V (ad 3) X3, wRing V (ad 4) X4, wKz V (ad 12 5) kp, wSight V (ad 15) U, wSusp V (ad 16) Y])) := by
  refine CI_intro (by decide) (Nat.le_of_ble_eq_true rfl) (fun K cx hret => ?_)
  show G V K 3 0 0 ((List.flatten [wMain ad, wRing V (ad 0) X0, wRing V (ad 1) X1, wRing V (ad 2) X2, wTx V (ad 11) L (nI z) b c d u, wRd (ad 12 0) (ad 11 0) lt, wSd (ad 12 1) (ad 13 0) (ad 14 0) sv, wCopy V (ad 13) A, wCopy V (ad 14) B, wHi (ad 12 2) (ad 12 3) (nI x) (nI s), wRs V (ad 12 3) 6 (fun j_ => ad (5 + j_) 0), wRing V (ad 5) (Hs 0), wRing V (ad 6) (Hs 1), wRing V (ad 7) (Hs 2), wRing V (ad 8) (Hs 3), wRing V (ad 9) (Hs 4), wRing V (ad 10) (Hs 5), wRs V (ad 12 4) 2 (fun j_ => ad (3 + j_) 0), wRing V (ad 3) X3, wRing V (ad 4) X4, wKz V (ad 12 5) kp, wSight V (ad 15) U, wSusp V (ad 16) Y])) 0 [(0, .ref (ad 12 6)), (1, .int l), (2, .int w)] []
  obtain ⟨hz, hx, hs, hn, hn6, hn1, ho, ho4, hm, hm7, hat, hbR, hbH, hbI, hk, hk6, hU⟩ := hC
  refine g_aload_n (v := ad 12 6) cx dX8_result_0 rfl ?_
  refine b_get (v := .ref (ad 0 0)) cx fk_X8_10 dX8_result_1 0 0 rfl rfl rfl ?_
  refine g_iload_n (v := l) cx dX8_result_4 rfl ?_
  refine b_calli (r0 := bI (¬ l < 0 ∧ ¬ X0 5 1 ≤ l)) (Ws' := [wMain ad, wRing V (ad 0) X0, wRing V (ad 1) X1, wRing V (ad 2) X2, wTx V (ad 11) L (nI z) b c d u, wRd (ad 12 0) (ad 11 0) lt, wSd (ad 12 1) (ad 13 0) (ad 14 0) sv, wCopy V (ad 13) A, wCopy V (ad 14) B, wHi (ad 12 2) (ad 12 3) (nI x) (nI s), wRs V (ad 12 3) 6 (fun j_ => ad (5 + j_) 0), wRing V (ad 5) (Hs 0), wRing V (ad 6) (Hs 1), wRing V (ad 7) (Hs 2), wRing V (ad 8) (Hs 3), wRing V (ad 9) (Hs 4), wRing V (ad 10) (Hs 5), wRs V (ad 12 4) 2 (fun j_ => ad (3 + j_) 0), wRing V (ad 3) X3, wRing V (ad 4) X4, wKz V (ad 12 5) kp, wSight V (ad 15) U, wSusp V (ad 16) Y]) (wcs := [wRing V (ad 0) X0]) (wos := [wRing V (ad 0) X0]) (As := [.int l]) (rest := []) cx (c_X3_hasOrder V (ad 0) X0 l) ml_X8_169 dX8_result_5 [1] rfl rfl (List.append_nil _) (List.append_nil _) [[ad 0 0, ad 0 1, ad 0 2, ad 0 3, ad 0 4, ad 0 5]] rfl rfl rfl 0 0 3 rfl rfl rfl rfl rfl rfl (Nat.le_of_ble_eq_true rfl) ⟨Nat.le_of_ble_eq_true rfl, Nat.le_of_ble_eq_true rfl⟩ ⟨Nat.le_refl _, Nat.le_refl _⟩ ?_
  refine g_if_eq_b cx 20 dX8_result_8 (by decide) (fun hw1 => absurd (⟨rf_ltMN hl (b := 0) (nl 0) (by omega) (by omega) (by omega), by rw [ho]; exact rf_leMN (a := o) rfl hl (by omega) (by omega) (by omega)⟩) hw1) (fun hw1 => ?_)
  refine g_iload_n (v := w) cx dX8_result_11 rfl ?_
  refine g_if_lt cx 20 dX8_result_12 (by decide) (fun hw2 => absurd hw2 (rf_ltMN hw (nl 0) (by omega) (by omega) (by omega))) (fun hw2 => ?_)
  refine g_iload_n (v := w) cx dX8_result_15 rfl ?_
  refine g_iconst (v := 2) cx dX8_result_16 (by decide) ?_
  refine g_icmp_lt cx 22 dX8_result_17 (by decide) (fun hw3 => ?_) (fun hw3 => absurd (rf_ltMP hw (nl 2) (by omega) (by omega) (by omega)) hw3)
  refine g_aload_n (v := ad 12 6) cx dX8_result_22 rfl ?_
  refine b_get (v := .ref (ad 0 0)) cx fk_X8_10 dX8_result_23 0 0 rfl rfl rfl ?_
  refine b_get (v := .int (X0 5 5)) cx fk_X8_175 dX8_result_26 1 0 rfl rfl rfl ?_
  refine g_if_eq cx 44 dX8_result_29 (by decide) (fun hw4 => ?_) (fun hw4 => absurd (h1) hw4)
  refine g_bipush (v := (-9)) cx dX8_result_44 (by decide) ?_
  exact hret _ _ _ _ dX8_result_46 (rfl) ⟨rfl, rfl⟩
def rm_X8_result_ok : Room := { frames := 1, cells := 0, slots := 0, locals := 22 }
set_option maxRecDepth 100000 in
set_option maxHeartbeats 4000000 in
theorem c_X8_result_ok (V : VT) (ad : Nat → Nat → Nat) (X0 X1 X2 X3 X4 : S2) (Hs : Nat → S2) (L : Nat → Int32) (z : Nat) (b c d u lt sv : Int32) (A B : S2) (x s : Nat) (kp : Nat → Int32) (U Y : S2) (n o m k : Nat) (hC : okC X0 X3 X4 Hs z x s n o m k U) (l w : Int32) (q t : Nat) (hl : l = nI q) (hq : q < o) (hw : w = nI t) (ht : t < 2) (h1 : ¬ X0 5 5 = 0) : CI V yX8_result cX8_result 3 .int rm_X8_result_ok [.ref (ad 12 6), .int l, .int w] ((List.flatten [wMain ad, wRing V (ad 0) X0, wRing V (ad 1) X1, wRing V (ad 2) X2, wTx V (ad 11) L (nI z) b c d u, wRd (ad 12 0) (ad 11 0) lt, wSd (ad 12 1) (ad 13 0) (ad 14 0) sv, wCopy V (ad 13) A, wCopy V (ad 14) B, wHi (ad 12 2) (ad 12 3) (nI x) (nI s), wRs V (ad 12 3) 6 (fun j_ => ad (5 + j_) 0), wRing V (ad 5) (Hs 0), wRing V (ad 6) (Hs 1), wRing V (ad 7) (Hs 2), wRing V (ad 8) (Hs 3), wRing V (ad 9) (Hs 4), wRing V (ad 10) (Hs 5), wRs V (ad 12 4) 2 (fun j_ => ad (3 + j_) 0), wRing V (ad 3) X3, wRing V (ad 4) X4, wKz V (ad 12 5) kp, wSight V (ad 15) U, wSusp V (ad 16) Y])) (fun r_ w_ => r_ = X0 3 (q * 2 + t) ∧ w_ = (List.flatten [wMain ad, wRing V (ad 0) X0, wRing V (ad 1) X1, wRing V (ad 2) X2, wTx V (ad 11) L (nI z) b c d u, wRd (ad 12 0) (ad 11 0) lt, wSd (ad 12 1) (ad 13 0) (ad 14 0) sv, wCopy V (ad 13) A, wCopy V (ad 14) B, wHi (ad 12 2) (ad 12 3) (nI x) (nI s), wRs V (ad 12 3) 6 (fun j_ => ad (5 + j_) 0), wRing V (ad 5) (Hs 0), wRing V (ad 6) (Hs 1), wRing V (ad 7) (Hs 2), wRing V (ad 8) (Hs 3), wRing V (ad 9) (Hs 4), wRing V (ad 10) (Hs 5), wRs V (ad 12 4) 2 (fun j_ => ad (3 + j_) 0), wRing V (ad 3) X3, wRing V (ad 4) X4, wKz V (ad 12 5) kp, wSight V (ad 15) U, wSusp V (ad 16) Y])) := by
  refine CI_intro (by decide) (Nat.le_of_ble_eq_true rfl) (fun K cx hret => ?_)
  show G V K 3 0 0 ((List.flatten [wMain ad, wRing V (ad 0) X0, wRing V (ad 1) X1, wRing V (ad 2) X2, wTx V (ad 11) L (nI z) b c d u, wRd (ad 12 0) (ad 11 0) lt, wSd (ad 12 1) (ad 13 0) (ad 14 0) sv, wCopy V (ad 13) A, wCopy V (ad 14) B, wHi (ad 12 2) (ad 12 3) (nI x) (nI s), wRs V (ad 12 3) 6 (fun j_ => ad (5 + j_) 0), wRing V (ad 5) (Hs 0), wRing V (ad 6) (Hs 1), wRing V (ad 7) (Hs 2), wRing V (ad 8) (Hs 3), wRing V (ad 9) (Hs 4), wRing V (ad 10) (Hs 5), wRs V (ad 12 4) 2 (fun j_ => ad (3 + j_) 0), wRing V (ad 3) X3, wRing V (ad 4) X4, wKz V (ad 12 5) kp, wSight V (ad 15) U, wSusp V (ad 16) Y])) 0 [(0, .ref (ad 12 6)), (1, .int l), (2, .int w)] []
  obtain ⟨hz, hx, hs, hn, hn6, hn1, ho, ho4, hm, hm7, hat, hbR, hbH, hbI, hk, hk6, hU⟩ := hC
  refine g_aload_n (v := ad 12 6) cx dX8_result_0 rfl ?_
  refine b_get (v := .ref (ad 0 0)) cx fk_X8_10 dX8_result_1 0 0 rfl rfl rfl ?_
  refine g_iload_n (v := l) cx dX8_result_4 rfl ?_
  refine b_calli (r0 := bI (¬ l < 0 ∧ ¬ X0 5 1 ≤ l)) (Ws' := [wMain ad, wRing V (ad 0) X0, wRing V (ad 1) X1, wRing V (ad 2) X2, wTx V (ad 11) L (nI z) b c d u, wRd (ad 12 0) (ad 11 0) lt, wSd (ad 12 1) (ad 13 0) (ad 14 0) sv, wCopy V (ad 13) A, wCopy V (ad 14) B, wHi (ad 12 2) (ad 12 3) (nI x) (nI s), wRs V (ad 12 3) 6 (fun j_ => ad (5 + j_) 0), wRing V (ad 5) (Hs 0), wRing V (ad 6) (Hs 1), wRing V (ad 7) (Hs 2), wRing V (ad 8) (Hs 3), wRing V (ad 9) (Hs 4), wRing V (ad 10) (Hs 5), wRs V (ad 12 4) 2 (fun j_ => ad (3 + j_) 0), wRing V (ad 3) X3, wRing V (ad 4) X4, wKz V (ad 12 5) kp, wSight V (ad 15) U, wSusp V (ad 16) Y]) (wcs := [wRing V (ad 0) X0]) (wos := [wRing V (ad 0) X0]) (As := [.int l]) (rest := []) cx (c_X3_hasOrder V (ad 0) X0 l) ml_X8_169 dX8_result_5 [1] rfl rfl (List.append_nil _) (List.append_nil _) [[ad 0 0, ad 0 1, ad 0 2, ad 0 3, ad 0 4, ad 0 5]] rfl rfl rfl 0 0 3 rfl rfl rfl rfl rfl rfl (Nat.le_of_ble_eq_true rfl) ⟨Nat.le_of_ble_eq_true rfl, Nat.le_of_ble_eq_true rfl⟩ ⟨Nat.le_refl _, Nat.le_refl _⟩ ?_
  refine g_if_eq_b cx 20 dX8_result_8 (by decide) (fun hw1 => absurd (⟨rf_ltMN hl (b := 0) (nl 0) (by omega) (by omega) (by omega), by rw [ho]; exact rf_leMN (a := o) rfl hl (by omega) (by omega) (by omega)⟩) hw1) (fun hw1 => ?_)
  refine g_iload_n (v := w) cx dX8_result_11 rfl ?_
  refine g_if_lt cx 20 dX8_result_12 (by decide) (fun hw2 => absurd hw2 (rf_ltMN hw (nl 0) (by omega) (by omega) (by omega))) (fun hw2 => ?_)
  refine g_iload_n (v := w) cx dX8_result_15 rfl ?_
  refine g_iconst (v := 2) cx dX8_result_16 (by decide) ?_
  refine g_icmp_lt cx 22 dX8_result_17 (by decide) (fun hw3 => ?_) (fun hw3 => absurd (rf_ltMP hw (nl 2) (by omega) (by omega) (by omega)) hw3)
  refine g_aload_n (v := ad 12 6) cx dX8_result_22 rfl ?_
  refine b_get (v := .ref (ad 0 0)) cx fk_X8_10 dX8_result_23 0 0 rfl rfl rfl ?_
  refine b_get (v := .int (X0 5 5)) cx fk_X8_175 dX8_result_26 1 0 rfl rfl rfl ?_
  refine g_if_eq cx 44 dX8_result_29 (by decide) (fun hw4 => absurd hw4 (h1)) (fun hw4 => ?_)
  refine g_aload_n (v := ad 12 6) cx dX8_result_32 rfl ?_
  refine b_get (v := .ref (ad 0 0)) cx fk_X8_10 dX8_result_33 0 0 rfl rfl rfl ?_
  refine g_iload_n (v := l) cx dX8_result_36 rfl ?_
  refine g_iload_n (v := w) cx dX8_result_37 rfl ?_
  refine b_calli (r0 := X0 3 (q * 2 + t)) (Ws' := [wMain ad, wRing V (ad 0) X0, wRing V (ad 1) X1, wRing V (ad 2) X2, wTx V (ad 11) L (nI z) b c d u, wRd (ad 12 0) (ad 11 0) lt, wSd (ad 12 1) (ad 13 0) (ad 14 0) sv, wCopy V (ad 13) A, wCopy V (ad 14) B, wHi (ad 12 2) (ad 12 3) (nI x) (nI s), wRs V (ad 12 3) 6 (fun j_ => ad (5 + j_) 0), wRing V (ad 5) (Hs 0), wRing V (ad 6) (Hs 1), wRing V (ad 7) (Hs 2), wRing V (ad 8) (Hs 3), wRing V (ad 9) (Hs 4), wRing V (ad 10) (Hs 5), wRs V (ad 12 4) 2 (fun j_ => ad (3 + j_) 0), wRing V (ad 3) X3, wRing V (ad 4) X4, wKz V (ad 12 5) kp, wSight V (ad 15) U, wSusp V (ad 16) Y]) (wcs := [wRing V (ad 0) X0]) (wos := [wRing V (ad 0) X0]) (As := [.int l, .int w]) (rest := []) cx (c_X3_ofResult V (ad 0) X0 l w (q * 2 + t) (rf_add (rf_mul hl rfl) hw) (by omega)) ml_X8_178 dX8_result_38 [1] rfl rfl (List.append_nil _) (List.append_nil _) [[ad 0 0, ad 0 1, ad 0 2, ad 0 3, ad 0 4, ad 0 5]] rfl rfl rfl 0 0 3 rfl rfl rfl rfl rfl rfl (Nat.le_of_ble_eq_true rfl) ⟨Nat.le_of_ble_eq_true rfl, Nat.le_of_ble_eq_true rfl⟩ ⟨Nat.le_refl _, Nat.le_refl _⟩ ?_
  refine g_goto cx 46 dX8_result_41 (by decide) ?_
  exact hret _ _ _ _ dX8_result_46 (rfl) ⟨rfl, rfl⟩
def rm_X8_time_bad : Room := { frames := 0, cells := 0, slots := 0, locals := 0 }
set_option maxRecDepth 100000 in
set_option maxHeartbeats 4000000 in
theorem c_X8_time_bad (V : VT) (ad : Nat → Nat → Nat) (X0 X1 X2 X3 X4 : S2) (Hs : Nat → S2) (L : Nat → Int32) (z : Nat) (b c d u lt sv : Int32) (A B : S2) (x s : Nat) (kp : Nat → Int32) (U Y : S2) (n o m k : Nat) (hC : okC X0 X3 X4 Hs z x s n o m k U) (l : Int32) (hb : ¬ (¬ l < 0 ∧ l < 2)) : CI V yX8_time cX8_time 2 .int rm_X8_time_bad [.ref (ad 12 6), .int l] ((List.flatten [wMain ad, wRing V (ad 0) X0, wRing V (ad 1) X1, wRing V (ad 2) X2, wTx V (ad 11) L (nI z) b c d u, wRd (ad 12 0) (ad 11 0) lt, wSd (ad 12 1) (ad 13 0) (ad 14 0) sv, wCopy V (ad 13) A, wCopy V (ad 14) B, wHi (ad 12 2) (ad 12 3) (nI x) (nI s), wRs V (ad 12 3) 6 (fun j_ => ad (5 + j_) 0), wRing V (ad 5) (Hs 0), wRing V (ad 6) (Hs 1), wRing V (ad 7) (Hs 2), wRing V (ad 8) (Hs 3), wRing V (ad 9) (Hs 4), wRing V (ad 10) (Hs 5), wRs V (ad 12 4) 2 (fun j_ => ad (3 + j_) 0), wRing V (ad 3) X3, wRing V (ad 4) X4, wKz V (ad 12 5) kp, wSight V (ad 15) U, wSusp V (ad 16) Y])) (fun r_ w_ => r_ = (-1) ∧ w_ = (List.flatten [wMain ad, wRing V (ad 0) X0, wRing V (ad 1) X1, wRing V (ad 2) X2, wTx V (ad 11) L (nI z) b c d u, wRd (ad 12 0) (ad 11 0) lt, wSd (ad 12 1) (ad 13 0) (ad 14 0) sv, wCopy V (ad 13) A, wCopy V (ad 14) B, wHi (ad 12 2) (ad 12 3) (nI x) (nI s), wRs V (ad 12 3) 6 (fun j_ => ad (5 + j_) 0), wRing V (ad 5) (Hs 0), wRing V (ad 6) (Hs 1), wRing V (ad 7) (Hs 2), wRing V (ad 8) (Hs 3), wRing V (ad 9) (Hs 4), wRing V (ad 10) (Hs 5), wRs V (ad 12 4) 2 (fun j_ => ad (3 + j_) 0), wRing V (ad 3) X3, wRing V (ad 4) X4, wKz V (ad 12 5) kp, wSight V (ad 15) U, wSusp V (ad 16) Y])) := by
  refine CI_intro (by decide) (Nat.le_of_ble_eq_true rfl) (fun K cx hret => ?_)
  show G V K 2 0 0 ((List.flatten [wMain ad, wRing V (ad 0) X0, wRing V (ad 1) X1, wRing V (ad 2) X2, wTx V (ad 11) L (nI z) b c d u, wRd (ad 12 0) (ad 11 0) lt, wSd (ad 12 1) (ad 13 0) (ad 14 0) sv, wCopy V (ad 13) A, wCopy V (ad 14) B, wHi (ad 12 2) (ad 12 3) (nI x) (nI s), wRs V (ad 12 3) 6 (fun j_ => ad (5 + j_) 0), wRing V (ad 5) (Hs 0), wRing V (ad 6) (Hs 1), wRing V (ad 7) (Hs 2), wRing V (ad 8) (Hs 3), wRing V (ad 9) (Hs 4), wRing V (ad 10) (Hs 5), wRs V (ad 12 4) 2 (fun j_ => ad (3 + j_) 0), wRing V (ad 3) X3, wRing V (ad 4) X4, wKz V (ad 12 5) kp, wSight V (ad 15) U, wSusp V (ad 16) Y])) 0 [(0, .ref (ad 12 6)), (1, .int l)] []
  obtain ⟨hz, hx, hs, hn, hn6, hn1, ho, ho4, hm, hm7, hat, hbR, hbH, hbI, hk, hk6, hU⟩ := hC
  refine g_iload_n (v := l) cx dX8_time_0 rfl ?_
  refine g_if_lt cx 9 dX8_time_1 (by decide) (fun hw1 => ?_) (fun hw1 => ?_)
  · skip
    refine g_iconst (v := (-1)) cx dX8_time_9 (by decide) ?_
    exact hret _ _ _ _ dX8_time_10 (rfl) ⟨rfl, rfl⟩
  · skip
    refine g_iload_n (v := l) cx dX8_time_4 rfl ?_
    refine g_iconst (v := 2) cx dX8_time_5 (by decide) ?_
    refine g_icmp_lt cx 11 dX8_time_6 (by decide) (fun hw2 => ?_) (fun hw2 => ?_)
    · skip
      exact absurd ⟨hw1, hw2⟩ hb
    · skip
      refine g_iconst (v := (-1)) cx dX8_time_9 (by decide) ?_
      exact hret _ _ _ _ dX8_time_10 (rfl) ⟨rfl, rfl⟩
def rm_X8_time_ok : Room := { frames := 0, cells := 0, slots := 0, locals := 0 }
set_option maxRecDepth 100000 in
set_option maxHeartbeats 4000000 in
theorem c_X8_time_ok (V : VT) (ad : Nat → Nat → Nat) (X0 X1 X2 X3 X4 : S2) (Hs : Nat → S2) (L : Nat → Int32) (z : Nat) (b c d u lt sv : Int32) (A B : S2) (x s : Nat) (kp : Nat → Int32) (U Y : S2) (n o m k : Nat) (hC : okC X0 X3 X4 Hs z x s n o m k U) (l : Int32) (q : Nat) (hl : l = nI q) (hq : q < 2) : CI V yX8_time cX8_time 2 .int rm_X8_time_ok [.ref (ad 12 6), .int l] ((List.flatten [wMain ad, wRing V (ad 0) X0, wRing V (ad 1) X1, wRing V (ad 2) X2, wTx V (ad 11) L (nI z) b c d u, wRd (ad 12 0) (ad 11 0) lt, wSd (ad 12 1) (ad 13 0) (ad 14 0) sv, wCopy V (ad 13) A, wCopy V (ad 14) B, wHi (ad 12 2) (ad 12 3) (nI x) (nI s), wRs V (ad 12 3) 6 (fun j_ => ad (5 + j_) 0), wRing V (ad 5) (Hs 0), wRing V (ad 6) (Hs 1), wRing V (ad 7) (Hs 2), wRing V (ad 8) (Hs 3), wRing V (ad 9) (Hs 4), wRing V (ad 10) (Hs 5), wRs V (ad 12 4) 2 (fun j_ => ad (3 + j_) 0), wRing V (ad 3) X3, wRing V (ad 4) X4, wKz V (ad 12 5) kp, wSight V (ad 15) U, wSusp V (ad 16) Y])) (fun r_ w_ => r_ = X0 4 q ∧ w_ = (List.flatten [wMain ad, wRing V (ad 0) X0, wRing V (ad 1) X1, wRing V (ad 2) X2, wTx V (ad 11) L (nI z) b c d u, wRd (ad 12 0) (ad 11 0) lt, wSd (ad 12 1) (ad 13 0) (ad 14 0) sv, wCopy V (ad 13) A, wCopy V (ad 14) B, wHi (ad 12 2) (ad 12 3) (nI x) (nI s), wRs V (ad 12 3) 6 (fun j_ => ad (5 + j_) 0), wRing V (ad 5) (Hs 0), wRing V (ad 6) (Hs 1), wRing V (ad 7) (Hs 2), wRing V (ad 8) (Hs 3), wRing V (ad 9) (Hs 4), wRing V (ad 10) (Hs 5), wRs V (ad 12 4) 2 (fun j_ => ad (3 + j_) 0), wRing V (ad 3) X3, wRing V (ad 4) X4, wKz V (ad 12 5) kp, wSight V (ad 15) U, wSusp V (ad 16) Y])) := by
  refine CI_intro (by decide) (Nat.le_of_ble_eq_true rfl) (fun K cx hret => ?_)
  show G V K 2 0 0 ((List.flatten [wMain ad, wRing V (ad 0) X0, wRing V (ad 1) X1, wRing V (ad 2) X2, wTx V (ad 11) L (nI z) b c d u, wRd (ad 12 0) (ad 11 0) lt, wSd (ad 12 1) (ad 13 0) (ad 14 0) sv, wCopy V (ad 13) A, wCopy V (ad 14) B, wHi (ad 12 2) (ad 12 3) (nI x) (nI s), wRs V (ad 12 3) 6 (fun j_ => ad (5 + j_) 0), wRing V (ad 5) (Hs 0), wRing V (ad 6) (Hs 1), wRing V (ad 7) (Hs 2), wRing V (ad 8) (Hs 3), wRing V (ad 9) (Hs 4), wRing V (ad 10) (Hs 5), wRs V (ad 12 4) 2 (fun j_ => ad (3 + j_) 0), wRing V (ad 3) X3, wRing V (ad 4) X4, wKz V (ad 12 5) kp, wSight V (ad 15) U, wSusp V (ad 16) Y])) 0 [(0, .ref (ad 12 6)), (1, .int l)] []
  obtain ⟨hz, hx, hs, hn, hn6, hn1, ho, ho4, hm, hm7, hat, hbR, hbH, hbI, hk, hk6, hU⟩ := hC
  refine g_iload_n (v := l) cx dX8_time_0 rfl ?_
  refine g_if_lt cx 9 dX8_time_1 (by decide) (fun hw1 => absurd hw1 (rf_ltMN hl (nl 0) (by omega) (by omega) (by omega))) (fun hw1 => ?_)
  refine g_iload_n (v := l) cx dX8_time_4 rfl ?_
  refine g_iconst (v := 2) cx dX8_time_5 (by decide) ?_
  refine g_icmp_lt cx 11 dX8_time_6 (by decide) (fun hw2 => ?_) (fun hw2 => absurd (rf_ltMP hl (nl 2) (by omega) (by omega) (by omega)) hw2)
  refine g_aload_n (v := ad 12 6) cx dX8_time_11 rfl ?_
  refine b_get (v := .ref (ad 0 0)) cx fk_X8_10 dX8_time_12 0 0 rfl rfl rfl ?_
  refine b_get (v := .ref (ad 0 5)) cx fk_X8_181 dX8_time_15 1 0 rfl rfl rfl ?_
  refine g_iload_n (v := l) cx dX8_time_18 rfl ?_
  refine b_iald cx dX8_time_19 1 5 q rfl rfl (hl) (by omega) (by first | decide | omega) ?_
  exact hret _ _ _ _ dX8_time_20 (rfl) ⟨rfl, rfl⟩
def rm_X8_reached_bad : Room := { frames := 0, cells := 0, slots := 0, locals := 0 }
set_option maxRecDepth 100000 in
set_option maxHeartbeats 4000000 in
theorem c_X8_reached_bad (V : VT) (ad : Nat → Nat → Nat) (X0 X1 X2 X3 X4 : S2) (Hs : Nat → S2) (L : Nat → Int32) (z : Nat) (b c d u lt sv : Int32) (A B : S2) (x s : Nat) (kp : Nat → Int32) (U Y : S2) (n o m k : Nat) (hC : okC X0 X3 X4 Hs z x s n o m k U) (l : Int32) (hb : ¬ (¬ l < 0 ∧ l ≤ 1)) : CI V yX8_reached cX8_reached 2 .int rm_X8_reached_bad [.ref (ad 12 6), .int l] ((List.flatten [wMain ad, wRing V (ad 0) X0, wRing V (ad 1) X1, wRing V (ad 2) X2, wTx V (ad 11) L (nI z) b c d u, wRd (ad 12 0) (ad 11 0) lt, wSd (ad 12 1) (ad 13 0) (ad 14 0) sv, wCopy V (ad 13) A, wCopy V (ad 14) B, wHi (ad 12 2) (ad 12 3) (nI x) (nI s), wRs V (ad 12 3) 6 (fun j_ => ad (5 + j_) 0), wRing V (ad 5) (Hs 0), wRing V (ad 6) (Hs 1), wRing V (ad 7) (Hs 2), wRing V (ad 8) (Hs 3), wRing V (ad 9) (Hs 4), wRing V (ad 10) (Hs 5), wRs V (ad 12 4) 2 (fun j_ => ad (3 + j_) 0), wRing V (ad 3) X3, wRing V (ad 4) X4, wKz V (ad 12 5) kp, wSight V (ad 15) U, wSusp V (ad 16) Y])) (fun r_ w_ => r_ = (-1) ∧ w_ = (List.flatten [wMain ad, wRing V (ad 0) X0, wRing V (ad 1) X1, wRing V (ad 2) X2, wTx V (ad 11) L (nI z) b c d u, wRd (ad 12 0) (ad 11 0) lt, wSd (ad 12 1) (ad 13 0) (ad 14 0) sv, wCopy V (ad 13) A, wCopy V (ad 14) B, wHi (ad 12 2) (ad 12 3) (nI x) (nI s), wRs V (ad 12 3) 6 (fun j_ => ad (5 + j_) 0), wRing V (ad 5) (Hs 0), wRing V (ad 6) (Hs 1), wRing V (ad 7) (Hs 2), wRing V (ad 8) (Hs 3), wRing V (ad 9) (Hs 4), wRing V (ad 10) (Hs 5), wRs V (ad 12 4) 2 (fun j_ => ad (3 + j_) 0), wRing V (ad 3) X3, wRing V (ad 4) X4, wKz V (ad 12 5) kp, wSight V (ad 15) U, wSusp V (ad 16) Y])) := by
  refine CI_intro (by decide) (Nat.le_of_ble_eq_true rfl) (fun K cx hret => ?_)
  show G V K 2 0 0 ((List.flatten [wMain ad, wRing V (ad 0) X0, wRing V (ad 1) X1, wRing V (ad 2) X2, wTx V (ad 11) L (nI z) b c d u, wRd (ad 12 0) (ad 11 0) lt, wSd (ad 12 1) (ad 13 0) (ad 14 0) sv, wCopy V (ad 13) A, wCopy V (ad 14) B, wHi (ad 12 2) (ad 12 3) (nI x) (nI s), wRs V (ad 12 3) 6 (fun j_ => ad (5 + j_) 0), wRing V (ad 5) (Hs 0), wRing V (ad 6) (Hs 1), wRing V (ad 7) (Hs 2), wRing V (ad 8) (Hs 3), wRing V (ad 9) (Hs 4), wRing V (ad 10) (Hs 5), wRs V (ad 12 4) 2 (fun j_ => ad (3 + j_) 0), wRing V (ad 3) X3, wRing V (ad 4) X4, wKz V (ad 12 5) kp, wSight V (ad 15) U, wSusp V (ad 16) Y])) 0 [(0, .ref (ad 12 6)), (1, .int l)] []
  obtain ⟨hz, hx, hs, hn, hn6, hn1, ho, ho4, hm, hm7, hat, hbR, hbH, hbI, hk, hk6, hU⟩ := hC
  refine g_iload_n (v := l) cx dX8_reached_0 rfl ?_
  refine g_if_lt cx 9 dX8_reached_1 (by decide) (fun hw1 => ?_) (fun hw1 => ?_)
  · skip
    refine g_iconst (v := (-1)) cx dX8_reached_9 (by decide) ?_
    exact hret _ _ _ _ dX8_reached_10 (rfl) ⟨rfl, rfl⟩
  · skip
    refine g_iload_n (v := l) cx dX8_reached_4 rfl ?_
    refine g_iconst (v := 1) cx dX8_reached_5 (by decide) ?_
    refine g_icmp_le cx 11 dX8_reached_6 (by decide) (fun hw2 => ?_) (fun hw2 => ?_)
    · skip
      exact absurd ⟨hw1, hw2⟩ hb
    · skip
      refine g_iconst (v := (-1)) cx dX8_reached_9 (by decide) ?_
      exact hret _ _ _ _ dX8_reached_10 (rfl) ⟨rfl, rfl⟩
def rm_X8_reached_A : Room := { frames := 3, cells := 0, slots := 0, locals := 62 }
set_option maxRecDepth 100000 in
set_option maxHeartbeats 4000000 in
theorem c_X8_reached_A (V : VT) (ad : Nat → Nat → Nat) (X0 X1 X2 X3 X4 : S2) (Hs : Nat → S2) (L : Nat → Int32) (z : Nat) (b c d u lt sv : Int32) (A B : S2) (x s : Nat) (kp : Nat → Int32) (U Y : S2) (n o m k : Nat) (hC : okC X0 X3 X4 Hs z x s n o m k U) (l : Int32) (hl : l = nI 0) : CI V yX8_reached cX8_reached 2 .int rm_X8_reached_A [.ref (ad 12 6), .int l] ((List.flatten [wMain ad, wRing V (ad 0) X0, wRing V (ad 1) X1, wRing V (ad 2) X2, wTx V (ad 11) L (nI z) b c d u, wRd (ad 12 0) (ad 11 0) lt, wSd (ad 12 1) (ad 13 0) (ad 14 0) sv, wCopy V (ad 13) A, wCopy V (ad 14) B, wHi (ad 12 2) (ad 12 3) (nI x) (nI s), wRs V (ad 12 3) 6 (fun j_ => ad (5 + j_) 0), wRing V (ad 5) (Hs 0), wRing V (ad 6) (Hs 1), wRing V (ad 7) (Hs 2), wRing V (ad 8) (Hs 3), wRing V (ad 9) (Hs 4), wRing V (ad 10) (Hs 5), wRs V (ad 12 4) 2 (fun j_ => ad (3 + j_) 0), wRing V (ad 3) X3, wRing V (ad 4) X4, wKz V (ad 12 5) kp, wSight V (ad 15) U, wSusp V (ad 16) Y])) (fun r_ w_ => r_ = ((1 : Int32) <<< (nI (eA X0 n) &&& 31)) - 1 ∧ w_ = (List.flatten [wMain ad, wRing V (ad 0) X0, wRing V (ad 1) X1, wRing V (ad 2) X2, wTx V (ad 11) L (nI z) b c d u, wRd (ad 12 0) (ad 11 0) lt, wSd (ad 12 1) (ad 13 0) (ad 14 0) sv, wCopy V (ad 13) A, wCopy V (ad 14) B, wHi (ad 12 2) (ad 12 3) (nI x) (nI s), wRs V (ad 12 3) 6 (fun j_ => ad (5 + j_) 0), wRing V (ad 5) (Hs 0), wRing V (ad 6) (Hs 1), wRing V (ad 7) (Hs 2), wRing V (ad 8) (Hs 3), wRing V (ad 9) (Hs 4), wRing V (ad 10) (Hs 5), wRs V (ad 12 4) 2 (fun j_ => ad (3 + j_) 0), wRing V (ad 3) X3, wRing V (ad 4) X4, wKz V (ad 12 5) kp, wSight V (ad 15) U, wSusp V (ad 16) Y])) := by
  refine CI_intro (by decide) (Nat.le_of_ble_eq_true rfl) (fun K cx hret => ?_)
  show G V K 2 0 0 ((List.flatten [wMain ad, wRing V (ad 0) X0, wRing V (ad 1) X1, wRing V (ad 2) X2, wTx V (ad 11) L (nI z) b c d u, wRd (ad 12 0) (ad 11 0) lt, wSd (ad 12 1) (ad 13 0) (ad 14 0) sv, wCopy V (ad 13) A, wCopy V (ad 14) B, wHi (ad 12 2) (ad 12 3) (nI x) (nI s), wRs V (ad 12 3) 6 (fun j_ => ad (5 + j_) 0), wRing V (ad 5) (Hs 0), wRing V (ad 6) (Hs 1), wRing V (ad 7) (Hs 2), wRing V (ad 8) (Hs 3), wRing V (ad 9) (Hs 4), wRing V (ad 10) (Hs 5), wRs V (ad 12 4) 2 (fun j_ => ad (3 + j_) 0), wRing V (ad 3) X3, wRing V (ad 4) X4, wKz V (ad 12 5) kp, wSight V (ad 15) U, wSusp V (ad 16) Y])) 0 [(0, .ref (ad 12 6)), (1, .int l)] []
  obtain ⟨hz, hx, hs, hn, hn6, hn1, ho, ho4, hm, hm7, hat, hbR, hbH, hbI, hk, hk6, hU⟩ := hC
  refine g_iload_n (v := l) cx dX8_reached_0 rfl ?_
  refine g_if_lt cx 9 dX8_reached_1 (by decide) (fun hw1 => absurd hw1 (rf_ltMN hl (nl 0) (by omega) (by omega) (by omega))) (fun hw1 => ?_)
  refine g_iload_n (v := l) cx dX8_reached_4 rfl ?_
  refine g_iconst (v := 1) cx dX8_reached_5 (by decide) ?_
  refine g_icmp_le cx 11 dX8_reached_6 (by decide) (fun hw2 => ?_) (fun hw2 => absurd (rf_leMP hl (nl 1) (by omega) (by omega) (by omega)) hw2)
  refine g_iload_n (v := l) cx dX8_reached_11 rfl ?_
  refine g_if_ne cx 25 dX8_reached_12 (by decide) (fun hw3 => absurd (rf_eqMP hl (nl 0) (by omega) (by omega) (by omega)) hw3) (fun hw3 => ?_)
  refine g_aload_n (v := ad 12 6) cx dX8_reached_15 rfl ?_
  refine b_get (v := .ref (ad 0 0)) cx fk_X8_10 dX8_reached_16 0 0 rfl rfl rfl ?_
  refine b_calli (r0 := ((1 : Int32) <<< (nI (eA X0 n) &&& 31)) - 1) (Ws' := [wMain ad, wRing V (ad 0) X0, wRing V (ad 1) X1, wRing V (ad 2) X2, wTx V (ad 11) L (nI z) b c d u, wRd (ad 12 0) (ad 11 0) lt, wSd (ad 12 1) (ad 13 0) (ad 14 0) sv, wCopy V (ad 13) A, wCopy V (ad 14) B, wHi (ad 12 2) (ad 12 3) (nI x) (nI s), wRs V (ad 12 3) 6 (fun j_ => ad (5 + j_) 0), wRing V (ad 5) (Hs 0), wRing V (ad 6) (Hs 1), wRing V (ad 7) (Hs 2), wRing V (ad 8) (Hs 3), wRing V (ad 9) (Hs 4), wRing V (ad 10) (Hs 5), wRs V (ad 12 4) 2 (fun j_ => ad (3 + j_) 0), wRing V (ad 3) X3, wRing V (ad 4) X4, wKz V (ad 12 5) kp, wSight V (ad 15) U, wSusp V (ad 16) Y]) (wcs := [wRing V (ad 0) X0]) (wos := [wRing V (ad 0) X0]) (As := []) (rest := []) cx (c_X3_bitsOfA V (ad 0) X0 n hn (by omega)) ml_X8_185 dX8_reached_19 [1] rfl rfl (List.append_nil _) (List.append_nil _) [[ad 0 0, ad 0 1, ad 0 2, ad 0 3, ad 0 4, ad 0 5]] rfl rfl rfl 0 0 3 rfl rfl rfl rfl rfl rfl (Nat.le_of_ble_eq_true rfl) ⟨Nat.le_of_ble_eq_true rfl, Nat.le_of_ble_eq_true rfl⟩ ⟨Nat.le_refl _, Nat.le_refl _⟩ ?_
  refine g_goto cx 32 dX8_reached_22 (by decide) ?_
  exact hret _ _ _ _ dX8_reached_32 (rfl) ⟨rfl, rfl⟩
def rm_X8_reached_B : Room := { frames := 3, cells := 0, slots := 0, locals := 62 }
set_option maxRecDepth 100000 in
set_option maxHeartbeats 4000000 in
theorem c_X8_reached_B (V : VT) (ad : Nat → Nat → Nat) (X0 X1 X2 X3 X4 : S2) (Hs : Nat → S2) (L : Nat → Int32) (z : Nat) (b c d u lt sv : Int32) (A B : S2) (x s : Nat) (kp : Nat → Int32) (U Y : S2) (n o m k : Nat) (hC : okC X0 X3 X4 Hs z x s n o m k U) (l : Int32) (hl : l = nI 1) : CI V yX8_reached cX8_reached 2 .int rm_X8_reached_B [.ref (ad 12 6), .int l] ((List.flatten [wMain ad, wRing V (ad 0) X0, wRing V (ad 1) X1, wRing V (ad 2) X2, wTx V (ad 11) L (nI z) b c d u, wRd (ad 12 0) (ad 11 0) lt, wSd (ad 12 1) (ad 13 0) (ad 14 0) sv, wCopy V (ad 13) A, wCopy V (ad 14) B, wHi (ad 12 2) (ad 12 3) (nI x) (nI s), wRs V (ad 12 3) 6 (fun j_ => ad (5 + j_) 0), wRing V (ad 5) (Hs 0), wRing V (ad 6) (Hs 1), wRing V (ad 7) (Hs 2), wRing V (ad 8) (Hs 3), wRing V (ad 9) (Hs 4), wRing V (ad 10) (Hs 5), wRs V (ad 12 4) 2 (fun j_ => ad (3 + j_) 0), wRing V (ad 3) X3, wRing V (ad 4) X4, wKz V (ad 12 5) kp, wSight V (ad 15) U, wSusp V (ad 16) Y])) (fun r_ w_ => r_ = ((1 : Int32) <<< (X0 5 0 &&& 31)) - ((1 : Int32) <<< (nI (sB X0 n) &&& 31)) ∧ w_ = (List.flatten [wMain ad, wRing V (ad 0) X0, wRing V (ad 1) X1, wRing V (ad 2) X2, wTx V (ad 11) L (nI z) b c d u, wRd (ad 12 0) (ad 11 0) lt, wSd (ad 12 1) (ad 13 0) (ad 14 0) sv, wCopy V (ad 13) A, wCopy V (ad 14) B, wHi (ad 12 2) (ad 12 3) (nI x) (nI s), wRs V (ad 12 3) 6 (fun j_ => ad (5 + j_) 0), wRing V (ad 5) (Hs 0), wRing V (ad 6) (Hs 1), wRing V (ad 7) (Hs 2), wRing V (ad 8) (Hs 3), wRing V (ad 9) (Hs 4), wRing V (ad 10) (Hs 5), wRs V (ad 12 4) 2 (fun j_ => ad (3 + j_) 0), wRing V (ad 3) X3, wRing V (ad 4) X4, wKz V (ad 12 5) kp, wSight V (ad 15) U, wSusp V (ad 16) Y])) := by
  refine CI_intro (by decide) (Nat.le_of_ble_eq_true rfl) (fun K cx hret => ?_)
  show G V K 2 0 0 ((List.flatten [wMain ad, wRing V (ad 0) X0, wRing V (ad 1) X1, wRing V (ad 2) X2, wTx V (ad 11) L (nI z) b c d u, wRd (ad 12 0) (ad 11 0) lt, wSd (ad 12 1) (ad 13 0) (ad 14 0) sv, wCopy V (ad 13) A, wCopy V (ad 14) B, wHi (ad 12 2) (ad 12 3) (nI x) (nI s), wRs V (ad 12 3) 6 (fun j_ => ad (5 + j_) 0), wRing V (ad 5) (Hs 0), wRing V (ad 6) (Hs 1), wRing V (ad 7) (Hs 2), wRing V (ad 8) (Hs 3), wRing V (ad 9) (Hs 4), wRing V (ad 10) (Hs 5), wRs V (ad 12 4) 2 (fun j_ => ad (3 + j_) 0), wRing V (ad 3) X3, wRing V (ad 4) X4, wKz V (ad 12 5) kp, wSight V (ad 15) U, wSusp V (ad 16) Y])) 0 [(0, .ref (ad 12 6)), (1, .int l)] []
  obtain ⟨hz, hx, hs, hn, hn6, hn1, ho, ho4, hm, hm7, hat, hbR, hbH, hbI, hk, hk6, hU⟩ := hC
  refine g_iload_n (v := l) cx dX8_reached_0 rfl ?_
  refine g_if_lt cx 9 dX8_reached_1 (by decide) (fun hw1 => absurd hw1 (rf_ltMN hl (nl 0) (by omega) (by omega) (by omega))) (fun hw1 => ?_)
  refine g_iload_n (v := l) cx dX8_reached_4 rfl ?_
  refine g_iconst (v := 1) cx dX8_reached_5 (by decide) ?_
  refine g_icmp_le cx 11 dX8_reached_6 (by decide) (fun hw2 => ?_) (fun hw2 => absurd (rf_leMP hl (nl 1) (by omega) (by omega) (by omega)) hw2)
  refine g_iload_n (v := l) cx dX8_reached_11 rfl ?_
  refine g_if_ne cx 25 dX8_reached_12 (by decide) (fun hw3 => ?_) (fun hw3 => absurd hw3 (rf_eqMN hl (nl 0) (by omega) (by omega) (by omega)))
  refine g_aload_n (v := ad 12 6) cx dX8_reached_25 rfl ?_
  refine b_get (v := .ref (ad 0 0)) cx fk_X8_10 dX8_reached_26 0 0 rfl rfl rfl ?_
  refine b_calli (r0 := ((1 : Int32) <<< (X0 5 0 &&& 31)) - ((1 : Int32) <<< (nI (sB X0 n) &&& 31))) (Ws' := [wMain ad, wRing V (ad 0) X0, wRing V (ad 1) X1, wRing V (ad 2) X2, wTx V (ad 11) L (nI z) b c d u, wRd (ad 12 0) (ad 11 0) lt, wSd (ad 12 1) (ad 13 0) (ad 14 0) sv, wCopy V (ad 13) A, wCopy V (ad 14) B, wHi (ad 12 2) (ad 12 3) (nI x) (nI s), wRs V (ad 12 3) 6 (fun j_ => ad (5 + j_) 0), wRing V (ad 5) (Hs 0), wRing V (ad 6) (Hs 1), wRing V (ad 7) (Hs 2), wRing V (ad 8) (Hs 3), wRing V (ad 9) (Hs 4), wRing V (ad 10) (Hs 5), wRs V (ad 12 4) 2 (fun j_ => ad (3 + j_) 0), wRing V (ad 3) X3, wRing V (ad 4) X4, wKz V (ad 12 5) kp, wSight V (ad 15) U, wSusp V (ad 16) Y]) (wcs := [wRing V (ad 0) X0]) (wos := [wRing V (ad 0) X0]) (As := []) (rest := []) cx (c_X3_bitsOfB V (ad 0) X0 n hn (by omega)) ml_X8_188 dX8_reached_29 [1] rfl rfl (List.append_nil _) (List.append_nil _) [[ad 0 0, ad 0 1, ad 0 2, ad 0 3, ad 0 4, ad 0 5]] rfl rfl rfl 0 0 3 rfl rfl rfl rfl rfl rfl (Nat.le_of_ble_eq_true rfl) ⟨Nat.le_of_ble_eq_true rfl, Nat.le_of_ble_eq_true rfl⟩ ⟨Nat.le_refl _, Nat.le_refl _⟩ ?_
  exact hret _ _ _ _ dX8_reached_32 (rfl) ⟨rfl, rfl⟩
def rm_X8_keep_bad : Room := { frames := 0, cells := 0, slots := 0, locals := 0 }
set_option maxRecDepth 100000 in
set_option maxHeartbeats 4000000 in
theorem c_X8_keep_bad (V : VT) (ad : Nat → Nat → Nat) (X0 X1 X2 X3 X4 : S2) (Hs : Nat → S2) (L : Nat → Int32) (z : Nat) (b c d u lt sv : Int32) (A B : S2) (x s : Nat) (kp : Nat → Int32) (U Y : S2) (n o m k : Nat) (hC : okC X0 X3 X4 Hs z x s n o m k U) (l : Int32) (hb : ¬ (¬ l < 0 ∧ l < 2)) : CI V yX8_keep cX8_keep 2 .int rm_X8_keep_bad [.ref (ad 12 6), .int l] ((List.flatten [wMain ad, wRing V (ad 0) X0, wRing V (ad 1) X1, wRing V (ad 2) X2, wTx V (ad 11) L (nI z) b c d u, wRd (ad 12 0) (ad 11 0) lt, wSd (ad 12 1) (ad 13 0) (ad 14 0) sv, wCopy V (ad 13) A, wCopy V (ad 14) B, wHi (ad 12 2) (ad 12 3) (nI x) (nI s), wRs V (ad 12 3) 6 (fun j_ => ad (5 + j_) 0), wRing V (ad 5) (Hs 0), wRing V (ad 6) (Hs 1), wRing V (ad 7) (Hs 2), wRing V (ad 8) (Hs 3), wRing V (ad 9) (Hs 4), wRing V (ad 10) (Hs 5), wRs V (ad 12 4) 2 (fun j_ => ad (3 + j_) 0), wRing V (ad 3) X3, wRing V (ad 4) X4, wKz V (ad 12 5) kp, wSight V (ad 15) U, wSusp V (ad 16) Y])) (fun r_ w_ => r_ = (-1) ∧ w_ = (List.flatten [wMain ad, wRing V (ad 0) X0, wRing V (ad 1) X1, wRing V (ad 2) X2, wTx V (ad 11) L (nI z) b c d u, wRd (ad 12 0) (ad 11 0) lt, wSd (ad 12 1) (ad 13 0) (ad 14 0) sv, wCopy V (ad 13) A, wCopy V (ad 14) B, wHi (ad 12 2) (ad 12 3) (nI x) (nI s), wRs V (ad 12 3) 6 (fun j_ => ad (5 + j_) 0), wRing V (ad 5) (Hs 0), wRing V (ad 6) (Hs 1), wRing V (ad 7) (Hs 2), wRing V (ad 8) (Hs 3), wRing V (ad 9) (Hs 4), wRing V (ad 10) (Hs 5), wRs V (ad 12 4) 2 (fun j_ => ad (3 + j_) 0), wRing V (ad 3) X3, wRing V (ad 4) X4, wKz V (ad 12 5) kp, wSight V (ad 15) U, wSusp V (ad 16) Y])) := by
  refine CI_intro (by decide) (Nat.le_of_ble_eq_true rfl) (fun K cx hret => ?_)
  show G V K 2 0 0 ((List.flatten [wMain ad, wRing V (ad 0) X0, wRing V (ad 1) X1, wRing V (ad 2) X2, wTx V (ad 11) L (nI z) b c d u, wRd (ad 12 0) (ad 11 0) lt, wSd (ad 12 1) (ad 13 0) (ad 14 0) sv, wCopy V (ad 13) A, wCopy V (ad 14) B, wHi (ad 12 2) (ad 12 3) (nI x) (nI s), wRs V (ad 12 3) 6 (fun j_ => ad (5 + j_) 0), wRing V (ad 5) (Hs 0), wRing V (ad 6) (Hs 1), wRing V (ad 7) (Hs 2), wRing V (ad 8) (Hs 3), wRing V (ad 9) (Hs 4), wRing V (ad 10) (Hs 5), wRs V (ad 12 4) 2 (fun j_ => ad (3 + j_) 0), wRing V (ad 3) X3, wRing V (ad 4) X4, wKz V (ad 12 5) kp, wSight V (ad 15) U, wSusp V (ad 16) Y])) 0 [(0, .ref (ad 12 6)), (1, .int l)] []
  obtain ⟨hz, hx, hs, hn, hn6, hn1, ho, ho4, hm, hm7, hat, hbR, hbH, hbI, hk, hk6, hU⟩ := hC
  refine g_iload_n (v := l) cx dX8_keep_0 rfl ?_
  refine g_if_lt cx 9 dX8_keep_1 (by decide) (fun hw1 => ?_) (fun hw1 => ?_)
  · skip
    refine g_iconst (v := (-1)) cx dX8_keep_9 (by decide) ?_
    exact hret _ _ _ _ dX8_keep_10 (rfl) ⟨rfl, rfl⟩
  · skip
    refine g_iload_n (v := l) cx dX8_keep_4 rfl ?_
    refine g_iconst (v := 2) cx dX8_keep_5 (by decide) ?_
    refine g_icmp_lt cx 11 dX8_keep_6 (by decide) (fun hw2 => ?_) (fun hw2 => ?_)
    · skip
      exact absurd ⟨hw1, hw2⟩ hb
    · skip
      refine g_iconst (v := (-1)) cx dX8_keep_9 (by decide) ?_
      exact hret _ _ _ _ dX8_keep_10 (rfl) ⟨rfl, rfl⟩
def rm_X8_back_bad : Room := { frames := 0, cells := 0, slots := 0, locals := 0 }
set_option maxRecDepth 100000 in
set_option maxHeartbeats 4000000 in
theorem c_X8_back_bad (V : VT) (ad : Nat → Nat → Nat) (X0 X1 X2 X3 X4 : S2) (Hs : Nat → S2) (L : Nat → Int32) (z : Nat) (b c d u lt sv : Int32) (A B : S2) (x s : Nat) (kp : Nat → Int32) (U Y : S2) (n o m k : Nat) (hC : okC X0 X3 X4 Hs z x s n o m k U) (l : Int32) (hb : ¬ (¬ l < 0 ∧ l < 2)) : CI V yX8_back cX8_back 2 .int rm_X8_back_bad [.ref (ad 12 6), .int l] ((List.flatten [wMain ad, wRing V (ad 0) X0, wRing V (ad 1) X1, wRing V (ad 2) X2, wTx V (ad 11) L (nI z) b c d u, wRd (ad 12 0) (ad 11 0) lt, wSd (ad 12 1) (ad 13 0) (ad 14 0) sv, wCopy V (ad 13) A, wCopy V (ad 14) B, wHi (ad 12 2) (ad 12 3) (nI x) (nI s), wRs V (ad 12 3) 6 (fun j_ => ad (5 + j_) 0), wRing V (ad 5) (Hs 0), wRing V (ad 6) (Hs 1), wRing V (ad 7) (Hs 2), wRing V (ad 8) (Hs 3), wRing V (ad 9) (Hs 4), wRing V (ad 10) (Hs 5), wRs V (ad 12 4) 2 (fun j_ => ad (3 + j_) 0), wRing V (ad 3) X3, wRing V (ad 4) X4, wKz V (ad 12 5) kp, wSight V (ad 15) U, wSusp V (ad 16) Y])) (fun r_ w_ => r_ = (-1) ∧ w_ = (List.flatten [wMain ad, wRing V (ad 0) X0, wRing V (ad 1) X1, wRing V (ad 2) X2, wTx V (ad 11) L (nI z) b c d u, wRd (ad 12 0) (ad 11 0) lt, wSd (ad 12 1) (ad 13 0) (ad 14 0) sv, wCopy V (ad 13) A, wCopy V (ad 14) B, wHi (ad 12 2) (ad 12 3) (nI x) (nI s), wRs V (ad 12 3) 6 (fun j_ => ad (5 + j_) 0), wRing V (ad 5) (Hs 0), wRing V (ad 6) (Hs 1), wRing V (ad 7) (Hs 2), wRing V (ad 8) (Hs 3), wRing V (ad 9) (Hs 4), wRing V (ad 10) (Hs 5), wRs V (ad 12 4) 2 (fun j_ => ad (3 + j_) 0), wRing V (ad 3) X3, wRing V (ad 4) X4, wKz V (ad 12 5) kp, wSight V (ad 15) U, wSusp V (ad 16) Y])) := by
  refine CI_intro (by decide) (Nat.le_of_ble_eq_true rfl) (fun K cx hret => ?_)
  show G V K 2 0 0 ((List.flatten [wMain ad, wRing V (ad 0) X0, wRing V (ad 1) X1, wRing V (ad 2) X2, wTx V (ad 11) L (nI z) b c d u, wRd (ad 12 0) (ad 11 0) lt, wSd (ad 12 1) (ad 13 0) (ad 14 0) sv, wCopy V (ad 13) A, wCopy V (ad 14) B, wHi (ad 12 2) (ad 12 3) (nI x) (nI s), wRs V (ad 12 3) 6 (fun j_ => ad (5 + j_) 0), wRing V (ad 5) (Hs 0), wRing V (ad 6) (Hs 1), wRing V (ad 7) (Hs 2), wRing V (ad 8) (Hs 3), wRing V (ad 9) (Hs 4), wRing V (ad 10) (Hs 5), wRs V (ad 12 4) 2 (fun j_ => ad (3 + j_) 0), wRing V (ad 3) X3, wRing V (ad 4) X4, wKz V (ad 12 5) kp, wSight V (ad 15) U, wSusp V (ad 16) Y])) 0 [(0, .ref (ad 12 6)), (1, .int l)] []
  obtain ⟨hz, hx, hs, hn, hn6, hn1, ho, ho4, hm, hm7, hat, hbR, hbH, hbI, hk, hk6, hU⟩ := hC
  refine g_iload_n (v := l) cx dX8_back_0 rfl ?_
  refine g_if_lt cx 9 dX8_back_1 (by decide) (fun hw1 => ?_) (fun hw1 => ?_)
  · skip
    refine g_iconst (v := (-1)) cx dX8_back_9 (by decide) ?_
    exact hret _ _ _ _ dX8_back_10 (rfl) ⟨rfl, rfl⟩
  · skip
    refine g_iload_n (v := l) cx dX8_back_4 rfl ?_
    refine g_iconst (v := 2) cx dX8_back_5 (by decide) ?_
    refine g_icmp_lt cx 11 dX8_back_6 (by decide) (fun hw2 => ?_) (fun hw2 => ?_)
    · skip
      exact absurd ⟨hw1, hw2⟩ hb
    · skip
      refine g_iconst (v := (-1)) cx dX8_back_9 (by decide) ?_
      exact hret _ _ _ _ dX8_back_10 (rfl) ⟨rfl, rfl⟩
def rm_X8_keep_ok0 : Room := { frames := 2, cells := 0, slots := 0, locals := 47 }
set_option maxRecDepth 100000 in
set_option maxHeartbeats 4000000 in
theorem c_X8_keep_ok0 (V : VT) (ad : Nat → Nat → Nat) (X0 X1 X2 X3 X4 : S2) (Hs : Nat → S2) (L : Nat → Int32) (z : Nat) (b c d u lt sv : Int32) (A B : S2) (x s : Nat) (kp : Nat → Int32) (U Y : S2) (n o m k : Nat) (hC : okC X0 X3 X4 Hs z x s n o m k U) (l : Int32) (hl : l = nI 0) : CI V yX8_keep cX8_keep 2 .int rm_X8_keep_ok0 [.ref (ad 12 6), .int l] ((List.flatten [wMain ad, wRing V (ad 0) X0, wRing V (ad 1) X1, wRing V (ad 2) X2, wTx V (ad 11) L (nI z) b c d u, wRd (ad 12 0) (ad 11 0) lt, wSd (ad 12 1) (ad 13 0) (ad 14 0) sv, wCopy V (ad 13) A, wCopy V (ad 14) B, wHi (ad 12 2) (ad 12 3) (nI x) (nI s), wRs V (ad 12 3) 6 (fun j_ => ad (5 + j_) 0), wRing V (ad 5) (Hs 0), wRing V (ad 6) (Hs 1), wRing V (ad 7) (Hs 2), wRing V (ad 8) (Hs 3), wRing V (ad 9) (Hs 4), wRing V (ad 10) (Hs 5), wRs V (ad 12 4) 2 (fun j_ => ad (3 + j_) 0), wRing V (ad 3) X3, wRing V (ad 4) X4, wKz V (ad 12 5) kp, wSight V (ad 15) U, wSusp V (ad 16) Y])) (fun r_ w_ => r_ = X0 5 0 ∧ w_ = (List.flatten [wMain ad, wRing V (ad 0) X0, wRing V (ad 1) X1, wRing V (ad 2) X2, wTx V (ad 11) L (nI z) b c d u, wRd (ad 12 0) (ad 11 0) lt, wSd (ad 12 1) (ad 13 0) (ad 14 0) sv, wCopy V (ad 13) A, wCopy V (ad 14) B, wHi (ad 12 2) (ad 12 3) (nI x) (nI s), wRs V (ad 12 3) 6 (fun j_ => ad (5 + j_) 0), wRing V (ad 5) (Hs 0), wRing V (ad 6) (Hs 1), wRing V (ad 7) (Hs 2), wRing V (ad 8) (Hs 3), wRing V (ad 9) (Hs 4), wRing V (ad 10) (Hs 5), wRs V (ad 12 4) 2 (fun j_ => ad (3 + j_) 0), wRing V (ad 3) (rCopy X3 X0), wRing V (ad 4) X4, wKz V (ad 12 5) (upd kp 0 1), wSight V (ad 15) U, wSusp V (ad 16) Y])) := by
  refine CI_intro (by decide) (Nat.le_of_ble_eq_true rfl) (fun K cx hret => ?_)
  show G V K 2 0 0 ((List.flatten [wMain ad, wRing V (ad 0) X0, wRing V (ad 1) X1, wRing V (ad 2) X2, wTx V (ad 11) L (nI z) b c d u, wRd (ad 12 0) (ad 11 0) lt, wSd (ad 12 1) (ad 13 0) (ad 14 0) sv, wCopy V (ad 13) A, wCopy V (ad 14) B, wHi (ad 12 2) (ad 12 3) (nI x) (nI s), wRs V (ad 12 3) 6 (fun j_ => ad (5 + j_) 0), wRing V (ad 5) (Hs 0), wRing V (ad 6) (Hs 1), wRing V (ad 7) (Hs 2), wRing V (ad 8) (Hs 3), wRing V (ad 9) (Hs 4), wRing V (ad 10) (Hs 5), wRs V (ad 12 4) 2 (fun j_ => ad (3 + j_) 0), wRing V (ad 3) X3, wRing V (ad 4) X4, wKz V (ad 12 5) kp, wSight V (ad 15) U, wSusp V (ad 16) Y])) 0 [(0, .ref (ad 12 6)), (1, .int l)] []
  obtain ⟨hz, hx, hs, hn, hn6, hn1, ho, ho4, hm, hm7, hat, hbR, hbH, hbI, hk, hk6, hU⟩ := hC
  refine g_iload_n (v := l) cx dX8_keep_0 rfl ?_
  refine g_if_lt cx 9 dX8_keep_1 (by decide) (fun hw1 => absurd hw1 (rf_ltMN hl (nl 0) (by omega) (by omega) (by omega))) (fun hw1 => ?_)
  refine g_iload_n (v := l) cx dX8_keep_4 rfl ?_
  refine g_iconst (v := 2) cx dX8_keep_5 (by decide) ?_
  refine g_icmp_lt cx 11 dX8_keep_6 (by decide) (fun hw2 => ?_) (fun hw2 => absurd (rf_ltMP hl (nl 2) (by omega) (by omega) (by omega)) hw2)
  refine g_aload_n (v := ad 12 6) cx dX8_keep_11 rfl ?_
  refine b_get (v := .ref (ad 12 4)) cx fk_X8_52 dX8_keep_12 0 0 rfl rfl rfl ?_
  refine g_iload_n (v := l) cx dX8_keep_15 rfl ?_
  refine b_aald (b := ad 3 0) cx dX8_keep_16 17 0 0 rfl rfl (hl) (by omega) (by decide) rfl ?_
  refine g_aload_n (v := ad 12 6) cx dX8_keep_17 rfl ?_
  refine b_get (v := .ref (ad 0 0)) cx fk_X8_10 dX8_keep_18 0 0 rfl rfl rfl ?_
  refine b_callv (Ws' := [wMain ad, wRing V (ad 0) X0, wRing V (ad 1) X1, wRing V (ad 2) X2, wTx V (ad 11) L (nI z) b c d u, wRd (ad 12 0) (ad 11 0) lt, wSd (ad 12 1) (ad 13 0) (ad 14 0) sv, wCopy V (ad 13) A, wCopy V (ad 14) B, wHi (ad 12 2) (ad 12 3) (nI x) (nI s), wRs V (ad 12 3) 6 (fun j_ => ad (5 + j_) 0), wRing V (ad 5) (Hs 0), wRing V (ad 6) (Hs 1), wRing V (ad 7) (Hs 2), wRing V (ad 8) (Hs 3), wRing V (ad 9) (Hs 4), wRing V (ad 10) (Hs 5), wRs V (ad 12 4) 2 (fun j_ => ad (3 + j_) 0), wRing V (ad 3) (rCopy X3 X0), wRing V (ad 4) X4, wKz V (ad 12 5) kp, wSight V (ad 15) U, wSusp V (ad 16) Y]) (wcs := [wRing V (ad 3) X3, wRing V (ad 0) X0]) (wos := [wRing V (ad 3) (rCopy X3 X0), wRing V (ad 0) X0]) (As := [.ref (ad 0 0)]) (rest := []) cx (c_X3_copyFrom V (ad 3) X3 (ad 0) X0 hbR.1 hbR.2.1 hbR.2.2) ml_X8_95 dX8_keep_21 [18, 1] rfl rfl (by simp only [List.flatten_cons, List.flatten_nil, List.append_nil, List.append_assoc]) (by simp only [List.flatten_cons, List.flatten_nil, List.append_nil, List.append_assoc]) [[ad 3 0, ad 3 1, ad 3 2, ad 3 3, ad 3 4, ad 3 5], [ad 0 0, ad 0 1, ad 0 2, ad 0 3, ad 0 4, ad 0 5]] rfl rfl rfl 0 0 3 rfl rfl rfl rfl rfl rfl (Nat.le_of_ble_eq_true rfl) ⟨Nat.le_of_ble_eq_true rfl, Nat.le_of_ble_eq_true rfl⟩ ⟨Nat.le_refl _, Nat.le_refl _⟩ ?_
  refine g_aload_n (v := ad 12 6) cx dX8_keep_24 rfl ?_
  refine b_get (v := .ref (ad 12 5)) cx fk_X8_56 dX8_keep_25 0 0 rfl rfl rfl ?_
  refine g_iload_n (v := l) cx dX8_keep_28 rfl ?_
  refine g_iconst (v := 1) cx dX8_keep_29 (by decide) ?_
  refine b_zast (blk' := wKz V (ad 12 5) (upd kp 0 1)) (Ws' := [wMain ad, wRing V (ad 0) X0, wRing V (ad 1) X1, wRing V (ad 2) X2, wTx V (ad 11) L (nI z) b c d u, wRd (ad 12 0) (ad 11 0) lt, wSd (ad 12 1) (ad 13 0) (ad 14 0) sv, wCopy V (ad 13) A, wCopy V (ad 14) B, wHi (ad 12 2) (ad 12 3) (nI x) (nI s), wRs V (ad 12 3) 6 (fun j_ => ad (5 + j_) 0), wRing V (ad 5) (Hs 0), wRing V (ad 6) (Hs 1), wRing V (ad 7) (Hs 2), wRing V (ad 8) (Hs 3), wRing V (ad 9) (Hs 4), wRing V (ad 10) (Hs 5), wRs V (ad 12 4) 2 (fun j_ => ad (3 + j_) 0), wRing V (ad 3) (rCopy X3 X0), wRing V (ad 4) X4, wKz V (ad 12 5) (upd kp 0 1), wSight V (ad 15) U, wSusp V (ad 16) Y]) cx dX8_keep_30 20 0 0 rfl rfl (hl) (by omega) (by first | decide | omega) (by decide) rfl rfl ?_
  refine g_aload_n (v := ad 12 6) cx dX8_keep_31 rfl ?_
  refine b_get (v := .ref (ad 0 0)) cx fk_X8_10 dX8_keep_32 0 0 rfl rfl rfl ?_
  refine b_get (v := .int (X0 5 0)) cx fk_X8_92 dX8_keep_35 1 0 rfl rfl rfl ?_
  exact hret _ _ _ _ dX8_keep_38 (rfl) ⟨rfl, rfl⟩
def rm_X8_back_state0 : Room := { frames := 0, cells := 0, slots := 0, locals := 0 }
set_option maxRecDepth 100000 in
set_option maxHeartbeats 4000000 in
theorem c_X8_back_state0 (V : VT) (ad : Nat → Nat → Nat) (X0 X1 X2 X3 X4 : S2) (Hs : Nat → S2) (L : Nat → Int32) (z : Nat) (b c d u lt sv : Int32) (A B : S2) (x s : Nat) (kp : Nat → Int32) (U Y : S2) (n o m k : Nat) (hC : okC X0 X3 X4 Hs z x s n o m k U) (l : Int32) (hl : l = nI 0) (h1 : kp 0 = 0) : CI V yX8_back cX8_back 2 .int rm_X8_back_state0 [.ref (ad 12 6), .int l] ((List.flatten [wMain ad, wRing V (ad 0) X0, wRing V (ad 1) X1, wRing V (ad 2) X2, wTx V (ad 11) L (nI z) b c d u, wRd (ad 12 0) (ad 11 0) lt, wSd (ad 12 1) (ad 13 0) (ad 14 0) sv, wCopy V (ad 13) A, wCopy V (ad 14) B, wHi (ad 12 2) (ad 12 3) (nI x) (nI s), wRs V (ad 12 3) 6 (fun j_ => ad (5 + j_) 0), wRing V (ad 5) (Hs 0), wRing V (ad 6) (Hs 1), wRing V (ad 7) (Hs 2), wRing V (ad 8) (Hs 3), wRing V (ad 9) (Hs 4), wRing V (ad 10) (Hs 5), wRs V (ad 12 4) 2 (fun j_ => ad (3 + j_) 0), wRing V (ad 3) X3, wRing V (ad 4) X4, wKz V (ad 12 5) kp, wSight V (ad 15) U, wSusp V (ad 16) Y])) (fun r_ w_ => r_ = (-2) ∧ w_ = (List.flatten [wMain ad, wRing V (ad 0) X0, wRing V (ad 1) X1, wRing V (ad 2) X2, wTx V (ad 11) L (nI z) b c d u, wRd (ad 12 0) (ad 11 0) lt, wSd (ad 12 1) (ad 13 0) (ad 14 0) sv, wCopy V (ad 13) A, wCopy V (ad 14) B, wHi (ad 12 2) (ad 12 3) (nI x) (nI s), wRs V (ad 12 3) 6 (fun j_ => ad (5 + j_) 0), wRing V (ad 5) (Hs 0), wRing V (ad 6) (Hs 1), wRing V (ad 7) (Hs 2), wRing V (ad 8) (Hs 3), wRing V (ad 9) (Hs 4), wRing V (ad 10) (Hs 5), wRs V (ad 12 4) 2 (fun j_ => ad (3 + j_) 0), wRing V (ad 3) X3, wRing V (ad 4) X4, wKz V (ad 12 5) kp, wSight V (ad 15) U, wSusp V (ad 16) Y])) := by
  refine CI_intro (by decide) (Nat.le_of_ble_eq_true rfl) (fun K cx hret => ?_)
  show G V K 2 0 0 ((List.flatten [wMain ad, wRing V (ad 0) X0, wRing V (ad 1) X1, wRing V (ad 2) X2, wTx V (ad 11) L (nI z) b c d u, wRd (ad 12 0) (ad 11 0) lt, wSd (ad 12 1) (ad 13 0) (ad 14 0) sv, wCopy V (ad 13) A, wCopy V (ad 14) B, wHi (ad 12 2) (ad 12 3) (nI x) (nI s), wRs V (ad 12 3) 6 (fun j_ => ad (5 + j_) 0), wRing V (ad 5) (Hs 0), wRing V (ad 6) (Hs 1), wRing V (ad 7) (Hs 2), wRing V (ad 8) (Hs 3), wRing V (ad 9) (Hs 4), wRing V (ad 10) (Hs 5), wRs V (ad 12 4) 2 (fun j_ => ad (3 + j_) 0), wRing V (ad 3) X3, wRing V (ad 4) X4, wKz V (ad 12 5) kp, wSight V (ad 15) U, wSusp V (ad 16) Y])) 0 [(0, .ref (ad 12 6)), (1, .int l)] []
  obtain ⟨hz, hx, hs, hn, hn6, hn1, ho, ho4, hm, hm7, hat, hbR, hbH, hbI, hk, hk6, hU⟩ := hC
  refine g_iload_n (v := l) cx dX8_back_0 rfl ?_
  refine g_if_lt cx 9 dX8_back_1 (by decide) (fun hw1 => absurd hw1 (rf_ltMN hl (nl 0) (by omega) (by omega) (by omega))) (fun hw1 => ?_)
  refine g_iload_n (v := l) cx dX8_back_4 rfl ?_
  refine g_iconst (v := 2) cx dX8_back_5 (by decide) ?_
  refine g_icmp_lt cx 11 dX8_back_6 (by decide) (fun hw2 => ?_) (fun hw2 => absurd (rf_ltMP hl (nl 2) (by omega) (by omega) (by omega)) hw2)
  refine g_aload_n (v := ad 12 6) cx dX8_back_11 rfl ?_
  refine b_get (v := .ref (ad 12 5)) cx fk_X8_56 dX8_back_12 0 0 rfl rfl rfl ?_
  refine g_iload_n (v := l) cx dX8_back_15 rfl ?_
  refine b_zald cx dX8_back_16 20 0 0 rfl rfl (hl) (by omega) (by first | decide | omega) ?_
  refine g_top (y := kp 0) (rfl) ?_
  refine g_if_ne cx 23 dX8_back_17 (by decide) (fun hw3 => absurd (h1) hw3) (fun hw3 => ?_)
  refine g_bipush (v := (-2)) cx dX8_back_20 (by decide) ?_
  exact hret _ _ _ _ dX8_back_22 (rfl) ⟨rfl, rfl⟩
def rm_X8_back_ok0 : Room := { frames := 2, cells := 0, slots := 0, locals := 47 }
set_option maxRecDepth 100000 in
set_option maxHeartbeats 4000000 in
theorem c_X8_back_ok0 (V : VT) (ad : Nat → Nat → Nat) (X0 X1 X2 X3 X4 : S2) (Hs : Nat → S2) (L : Nat → Int32) (z : Nat) (b c d u lt sv : Int32) (A B : S2) (x s : Nat) (kp : Nat → Int32) (U Y : S2) (n o m k : Nat) (hC : okC X0 X3 X4 Hs z x s n o m k U) (l : Int32) (hl : l = nI 0) (h1 : ¬ kp 0 = 0) : CI V yX8_back cX8_back 2 .int rm_X8_back_ok0 [.ref (ad 12 6), .int l] ((List.flatten [wMain ad, wRing V (ad 0) X0, wRing V (ad 1) X1, wRing V (ad 2) X2, wTx V (ad 11) L (nI z) b c d u, wRd (ad 12 0) (ad 11 0) lt, wSd (ad 12 1) (ad 13 0) (ad 14 0) sv, wCopy V (ad 13) A, wCopy V (ad 14) B, wHi (ad 12 2) (ad 12 3) (nI x) (nI s), wRs V (ad 12 3) 6 (fun j_ => ad (5 + j_) 0), wRing V (ad 5) (Hs 0), wRing V (ad 6) (Hs 1), wRing V (ad 7) (Hs 2), wRing V (ad 8) (Hs 3), wRing V (ad 9) (Hs 4), wRing V (ad 10) (Hs 5), wRs V (ad 12 4) 2 (fun j_ => ad (3 + j_) 0), wRing V (ad 3) X3, wRing V (ad 4) X4, wKz V (ad 12 5) kp, wSight V (ad 15) U, wSusp V (ad 16) Y])) (fun r_ w_ => r_ = X3 5 0 ∧ w_ = (List.flatten [wMain ad, wRing V (ad 0) (rCopy X0 X3), wRing V (ad 1) X1, wRing V (ad 2) X2, wTx V (ad 11) L (nI z) b c d u, wRd (ad 12 0) (ad 11 0) lt, wSd (ad 12 1) (ad 13 0) (ad 14 0) sv, wCopy V (ad 13) A, wCopy V (ad 14) B, wHi (ad 12 2) (ad 12 3) (nI x) 0, wRs V (ad 12 3) 6 (fun j_ => ad (5 + j_) 0), wRing V (ad 5) (Hs 0), wRing V (ad 6) (Hs 1), wRing V (ad 7) (Hs 2), wRing V (ad 8) (Hs 3), wRing V (ad 9) (Hs 4), wRing V (ad 10) (Hs 5), wRs V (ad 12 4) 2 (fun j_ => ad (3 + j_) 0), wRing V (ad 3) X3, wRing V (ad 4) X4, wKz V (ad 12 5) kp, wSight V (ad 15) U, wSusp V (ad 16) Y])) := by
  refine CI_intro (by decide) (Nat.le_of_ble_eq_true rfl) (fun K cx hret => ?_)
  show G V K 2 0 0 ((List.flatten [wMain ad, wRing V (ad 0) X0, wRing V (ad 1) X1, wRing V (ad 2) X2, wTx V (ad 11) L (nI z) b c d u, wRd (ad 12 0) (ad 11 0) lt, wSd (ad 12 1) (ad 13 0) (ad 14 0) sv, wCopy V (ad 13) A, wCopy V (ad 14) B, wHi (ad 12 2) (ad 12 3) (nI x) (nI s), wRs V (ad 12 3) 6 (fun j_ => ad (5 + j_) 0), wRing V (ad 5) (Hs 0), wRing V (ad 6) (Hs 1), wRing V (ad 7) (Hs 2), wRing V (ad 8) (Hs 3), wRing V (ad 9) (Hs 4), wRing V (ad 10) (Hs 5), wRs V (ad 12 4) 2 (fun j_ => ad (3 + j_) 0), wRing V (ad 3) X3, wRing V (ad 4) X4, wKz V (ad 12 5) kp, wSight V (ad 15) U, wSusp V (ad 16) Y])) 0 [(0, .ref (ad 12 6)), (1, .int l)] []
  obtain ⟨hz, hx, hs, hn, hn6, hn1, ho, ho4, hm, hm7, hat, hbR, hbH, hbI, hk, hk6, hU⟩ := hC
  refine g_iload_n (v := l) cx dX8_back_0 rfl ?_
  refine g_if_lt cx 9 dX8_back_1 (by decide) (fun hw1 => absurd hw1 (rf_ltMN hl (nl 0) (by omega) (by omega) (by omega))) (fun hw1 => ?_)
  refine g_iload_n (v := l) cx dX8_back_4 rfl ?_
  refine g_iconst (v := 2) cx dX8_back_5 (by decide) ?_
  refine g_icmp_lt cx 11 dX8_back_6 (by decide) (fun hw2 => ?_) (fun hw2 => absurd (rf_ltMP hl (nl 2) (by omega) (by omega) (by omega)) hw2)
  refine g_aload_n (v := ad 12 6) cx dX8_back_11 rfl ?_
  refine b_get (v := .ref (ad 12 5)) cx fk_X8_56 dX8_back_12 0 0 rfl rfl rfl ?_
  refine g_iload_n (v := l) cx dX8_back_15 rfl ?_
  refine b_zald cx dX8_back_16 20 0 0 rfl rfl (hl) (by omega) (by first | decide | omega) ?_
  refine g_top (y := kp 0) (rfl) ?_
  refine g_if_ne cx 23 dX8_back_17 (by decide) (fun hw3 => ?_) (fun hw3 => absurd hw3 (h1))
  refine g_aload_n (v := ad 12 6) cx dX8_back_23 rfl ?_
  refine b_get (v := .ref (ad 0 0)) cx fk_X8_10 dX8_back_24 0 0 rfl rfl rfl ?_
  refine g_aload_n (v := ad 12 6) cx dX8_back_27 rfl ?_
  refine b_get (v := .ref (ad 12 4)) cx fk_X8_52 dX8_back_28 0 0 rfl rfl rfl ?_
  refine g_iload_n (v := l) cx dX8_back_31 rfl ?_
  refine b_aald (b := ad 3 0) cx dX8_back_32 17 0 0 rfl rfl (hl) (by omega) (by decide) rfl ?_
  refine b_callv (Ws' := [wMain ad, wRing V (ad 0) (rCopy X0 X3), wRing V (ad 1) X1, wRing V (ad 2) X2, wTx V (ad 11) L (nI z) b c d u, wRd (ad 12 0) (ad 11 0) lt, wSd (ad 12 1) (ad 13 0) (ad 14 0) sv, wCopy V (ad 13) A, wCopy V (ad 14) B, wHi (ad 12 2) (ad 12 3) (nI x) (nI s), wRs V (ad 12 3) 6 (fun j_ => ad (5 + j_) 0), wRing V (ad 5) (Hs 0), wRing V (ad 6) (Hs 1), wRing V (ad 7) (Hs 2), wRing V (ad 8) (Hs 3), wRing V (ad 9) (Hs 4), wRing V (ad 10) (Hs 5), wRs V (ad 12 4) 2 (fun j_ => ad (3 + j_) 0), wRing V (ad 3) X3, wRing V (ad 4) X4, wKz V (ad 12 5) kp, wSight V (ad 15) U, wSusp V (ad 16) Y]) (wcs := [wRing V (ad 0) X0, wRing V (ad 3) X3]) (wos := [wRing V (ad 0) (rCopy X0 X3), wRing V (ad 3) X3]) (As := [.ref (ad 3 0)]) (rest := []) cx (c_X3_copyFrom V (ad 0) X0 (ad 3) X3 hbI.1.1 hbI.1.2.1 hbI.1.2.2) ml_X8_95 dX8_back_33 [1, 18] rfl rfl (by simp only [List.flatten_cons, List.flatten_nil, List.append_nil, List.append_assoc]) (by simp only [List.flatten_cons, List.flatten_nil, List.append_nil, List.append_assoc]) [[ad 0 0, ad 0 1, ad 0 2, ad 0 3, ad 0 4, ad 0 5], [ad 3 0, ad 3 1, ad 3 2, ad 3 3, ad 3 4, ad 3 5]] rfl rfl rfl 0 0 3 rfl rfl rfl rfl rfl rfl (Nat.le_of_ble_eq_true rfl) ⟨Nat.le_of_ble_eq_true rfl, Nat.le_of_ble_eq_true rfl⟩ ⟨Nat.le_refl _, Nat.le_refl _⟩ ?_
  refine g_aload_n (v := ad 12 6) cx dX8_back_36 rfl ?_
  refine b_get (v := .ref (ad 12 2)) cx fk_X8_48 dX8_back_37 0 0 rfl rfl rfl ?_
  refine g_iconst (v := 0) cx dX8_back_40 (by decide) ?_
  refine b_put (blk' := wHi (ad 12 2) (ad 12 3) (nI x) 0) (Ws' := [wMain ad, wRing V (ad 0) (rCopy X0 X3), wRing V (ad 1) X1, wRing V (ad 2) X2, wTx V (ad 11) L (nI z) b c d u, wRd (ad 12 0) (ad 11 0) lt, wSd (ad 12 1) (ad 13 0) (ad 14 0) sv, wCopy V (ad 13) A, wCopy V (ad 14) B, wHi (ad 12 2) (ad 12 3) (nI x) 0, wRs V (ad 12 3) 6 (fun j_ => ad (5 + j_) 0), wRing V (ad 5) (Hs 0), wRing V (ad 6) (Hs 1), wRing V (ad 7) (Hs 2), wRing V (ad 8) (Hs 3), wRing V (ad 9) (Hs 4), wRing V (ad 10) (Hs 5), wRs V (ad 12 4) 2 (fun j_ => ad (3 + j_) 0), wRing V (ad 3) X3, wRing V (ad 4) X4, wKz V (ad 12 5) kp, wSight V (ad 15) U, wSusp V (ad 16) Y]) cx fk_X8_158 dX8_back_41 9 0 rfl rfl (rfl) (rfl) (Nat.le_of_ble_eq_true rfl) rfl rfl ?_
  refine g_aload_n (v := ad 12 6) cx dX8_back_44 rfl ?_
  refine b_get (v := .ref (ad 0 0)) cx fk_X8_10 dX8_back_45 0 0 rfl rfl rfl ?_
  refine b_get (v := .int ((rCopy X0 X3) 5 0)) cx fk_X8_92 dX8_back_48 1 0 rfl rfl rfl ?_
  exact hret _ _ _ _ dX8_back_51 (rfl) ⟨rfl, rfl⟩
def rm_X8_keep_ok1 : Room := { frames := 2, cells := 0, slots := 0, locals := 47 }
set_option maxRecDepth 100000 in
set_option maxHeartbeats 4000000 in
theorem c_X8_keep_ok1 (V : VT) (ad : Nat → Nat → Nat) (X0 X1 X2 X3 X4 : S2) (Hs : Nat → S2) (L : Nat → Int32) (z : Nat) (b c d u lt sv : Int32) (A B : S2) (x s : Nat) (kp : Nat → Int32) (U Y : S2) (n o m k : Nat) (hC : okC X0 X3 X4 Hs z x s n o m k U) (l : Int32) (hl : l = nI 1) : CI V yX8_keep cX8_keep 2 .int rm_X8_keep_ok1 [.ref (ad 12 6), .int l] ((List.flatten [wMain ad, wRing V (ad 0) X0, wRing V (ad 1) X1, wRing V (ad 2) X2, wTx V (ad 11) L (nI z) b c d u, wRd (ad 12 0) (ad 11 0) lt, wSd (ad 12 1) (ad 13 0) (ad 14 0) sv, wCopy V (ad 13) A, wCopy V (ad 14) B, wHi (ad 12 2) (ad 12 3) (nI x) (nI s), wRs V (ad 12 3) 6 (fun j_ => ad (5 + j_) 0), wRing V (ad 5) (Hs 0), wRing V (ad 6) (Hs 1), wRing V (ad 7) (Hs 2), wRing V (ad 8) (Hs 3), wRing V (ad 9) (Hs 4), wRing V (ad 10) (Hs 5), wRs V (ad 12 4) 2 (fun j_ => ad (3 + j_) 0), wRing V (ad 3) X3, wRing V (ad 4) X4, wKz V (ad 12 5) kp, wSight V (ad 15) U, wSusp V (ad 16) Y])) (fun r_ w_ => r_ = X0 5 0 ∧ w_ = (List.flatten [wMain ad, wRing V (ad 0) X0, wRing V (ad 1) X1, wRing V (ad 2) X2, wTx V (ad 11) L (nI z) b c d u, wRd (ad 12 0) (ad 11 0) lt, wSd (ad 12 1) (ad 13 0) (ad 14 0) sv, wCopy V (ad 13) A, wCopy V (ad 14) B, wHi (ad 12 2) (ad 12 3) (nI x) (nI s), wRs V (ad 12 3) 6 (fun j_ => ad (5 + j_) 0), wRing V (ad 5) (Hs 0), wRing V (ad 6) (Hs 1), wRing V (ad 7) (Hs 2), wRing V (ad 8) (Hs 3), wRing V (ad 9) (Hs 4), wRing V (ad 10) (Hs 5), wRs V (ad 12 4) 2 (fun j_ => ad (3 + j_) 0), wRing V (ad 3) X3, wRing V (ad 4) (rCopy X4 X0), wKz V (ad 12 5) (upd kp 1 1), wSight V (ad 15) U, wSusp V (ad 16) Y])) := by
  refine CI_intro (by decide) (Nat.le_of_ble_eq_true rfl) (fun K cx hret => ?_)
  show G V K 2 0 0 ((List.flatten [wMain ad, wRing V (ad 0) X0, wRing V (ad 1) X1, wRing V (ad 2) X2, wTx V (ad 11) L (nI z) b c d u, wRd (ad 12 0) (ad 11 0) lt, wSd (ad 12 1) (ad 13 0) (ad 14 0) sv, wCopy V (ad 13) A, wCopy V (ad 14) B, wHi (ad 12 2) (ad 12 3) (nI x) (nI s), wRs V (ad 12 3) 6 (fun j_ => ad (5 + j_) 0), wRing V (ad 5) (Hs 0), wRing V (ad 6) (Hs 1), wRing V (ad 7) (Hs 2), wRing V (ad 8) (Hs 3), wRing V (ad 9) (Hs 4), wRing V (ad 10) (Hs 5), wRs V (ad 12 4) 2 (fun j_ => ad (3 + j_) 0), wRing V (ad 3) X3, wRing V (ad 4) X4, wKz V (ad 12 5) kp, wSight V (ad 15) U, wSusp V (ad 16) Y])) 0 [(0, .ref (ad 12 6)), (1, .int l)] []
  obtain ⟨hz, hx, hs, hn, hn6, hn1, ho, ho4, hm, hm7, hat, hbR, hbH, hbI, hk, hk6, hU⟩ := hC
  refine g_iload_n (v := l) cx dX8_keep_0 rfl ?_
  refine g_if_lt cx 9 dX8_keep_1 (by decide) (fun hw1 => absurd hw1 (rf_ltMN hl (nl 0) (by omega) (by omega) (by omega))) (fun hw1 => ?_)
  refine g_iload_n (v := l) cx dX8_keep_4 rfl ?_
  refine g_iconst (v := 2) cx dX8_keep_5 (by decide) ?_
  refine g_icmp_lt cx 11 dX8_keep_6 (by decide) (fun hw2 => ?_) (fun hw2 => absurd (rf_ltMP hl (nl 2) (by omega) (by omega) (by omega)) hw2)
  refine g_aload_n (v := ad 12 6) cx dX8_keep_11 rfl ?_
  refine b_get (v := .ref (ad 12 4)) cx fk_X8_52 dX8_keep_12 0 0 rfl rfl rfl ?_
  refine g_iload_n (v := l) cx dX8_keep_15 rfl ?_
  refine b_aald (b := ad 4 0) cx dX8_keep_16 17 0 1 rfl rfl (hl) (by omega) (by decide) rfl ?_
  refine g_aload_n (v := ad 12 6) cx dX8_keep_17 rfl ?_
  refine b_get (v := .ref (ad 0 0)) cx fk_X8_10 dX8_keep_18 0 0 rfl rfl rfl ?_
  refine b_callv (Ws' := [wMain ad, wRing V (ad 0) X0, wRing V (ad 1) X1, wRing V (ad 2) X2, wTx V (ad 11) L (nI z) b c d u, wRd (ad 12 0) (ad 11 0) lt, wSd (ad 12 1) (ad 13 0) (ad 14 0) sv, wCopy V (ad 13) A, wCopy V (ad 14) B, wHi (ad 12 2) (ad 12 3) (nI x) (nI s), wRs V (ad 12 3) 6 (fun j_ => ad (5 + j_) 0), wRing V (ad 5) (Hs 0), wRing V (ad 6) (Hs 1), wRing V (ad 7) (Hs 2), wRing V (ad 8) (Hs 3), wRing V (ad 9) (Hs 4), wRing V (ad 10) (Hs 5), wRs V (ad 12 4) 2 (fun j_ => ad (3 + j_) 0), wRing V (ad 3) X3, wRing V (ad 4) (rCopy X4 X0), wKz V (ad 12 5) kp, wSight V (ad 15) U, wSusp V (ad 16) Y]) (wcs := [wRing V (ad 4) X4, wRing V (ad 0) X0]) (wos := [wRing V (ad 4) (rCopy X4 X0), wRing V (ad 0) X0]) (As := [.ref (ad 0 0)]) (rest := []) cx (c_X3_copyFrom V (ad 4) X4 (ad 0) X0 hbR.1 hbR.2.1 hbR.2.2) ml_X8_95 dX8_keep_21 [19, 1] rfl rfl (by simp only [List.flatten_cons, List.flatten_nil, List.append_nil, List.append_assoc]) (by simp only [List.flatten_cons, List.flatten_nil, List.append_nil, List.append_assoc]) [[ad 4 0, ad 4 1, ad 4 2, ad 4 3, ad 4 4, ad 4 5], [ad 0 0, ad 0 1, ad 0 2, ad 0 3, ad 0 4, ad 0 5]] rfl rfl rfl 0 0 3 rfl rfl rfl rfl rfl rfl (Nat.le_of_ble_eq_true rfl) ⟨Nat.le_of_ble_eq_true rfl, Nat.le_of_ble_eq_true rfl⟩ ⟨Nat.le_refl _, Nat.le_refl _⟩ ?_
  refine g_aload_n (v := ad 12 6) cx dX8_keep_24 rfl ?_
  refine b_get (v := .ref (ad 12 5)) cx fk_X8_56 dX8_keep_25 0 0 rfl rfl rfl ?_
  refine g_iload_n (v := l) cx dX8_keep_28 rfl ?_
  refine g_iconst (v := 1) cx dX8_keep_29 (by decide) ?_
  refine b_zast (blk' := wKz V (ad 12 5) (upd kp 1 1)) (Ws' := [wMain ad, wRing V (ad 0) X0, wRing V (ad 1) X1, wRing V (ad 2) X2, wTx V (ad 11) L (nI z) b c d u, wRd (ad 12 0) (ad 11 0) lt, wSd (ad 12 1) (ad 13 0) (ad 14 0) sv, wCopy V (ad 13) A, wCopy V (ad 14) B, wHi (ad 12 2) (ad 12 3) (nI x) (nI s), wRs V (ad 12 3) 6 (fun j_ => ad (5 + j_) 0), wRing V (ad 5) (Hs 0), wRing V (ad 6) (Hs 1), wRing V (ad 7) (Hs 2), wRing V (ad 8) (Hs 3), wRing V (ad 9) (Hs 4), wRing V (ad 10) (Hs 5), wRs V (ad 12 4) 2 (fun j_ => ad (3 + j_) 0), wRing V (ad 3) X3, wRing V (ad 4) (rCopy X4 X0), wKz V (ad 12 5) (upd kp 1 1), wSight V (ad 15) U, wSusp V (ad 16) Y]) cx dX8_keep_30 20 0 1 rfl rfl (hl) (by omega) (by first | decide | omega) (by decide) rfl rfl ?_
  refine g_aload_n (v := ad 12 6) cx dX8_keep_31 rfl ?_
  refine b_get (v := .ref (ad 0 0)) cx fk_X8_10 dX8_keep_32 0 0 rfl rfl rfl ?_
  refine b_get (v := .int (X0 5 0)) cx fk_X8_92 dX8_keep_35 1 0 rfl rfl rfl ?_
  exact hret _ _ _ _ dX8_keep_38 (rfl) ⟨rfl, rfl⟩
def rm_X8_back_state1 : Room := { frames := 0, cells := 0, slots := 0, locals := 0 }
set_option maxRecDepth 100000 in
set_option maxHeartbeats 4000000 in
theorem c_X8_back_state1 (V : VT) (ad : Nat → Nat → Nat) (X0 X1 X2 X3 X4 : S2) (Hs : Nat → S2) (L : Nat → Int32) (z : Nat) (b c d u lt sv : Int32) (A B : S2) (x s : Nat) (kp : Nat → Int32) (U Y : S2) (n o m k : Nat) (hC : okC X0 X3 X4 Hs z x s n o m k U) (l : Int32) (hl : l = nI 1) (h1 : kp 1 = 0) : CI V yX8_back cX8_back 2 .int rm_X8_back_state1 [.ref (ad 12 6), .int l] ((List.flatten [wMain ad, wRing V (ad 0) X0, wRing V (ad 1) X1, wRing V (ad 2) X2, wTx V (ad 11) L (nI z) b c d u, wRd (ad 12 0) (ad 11 0) lt, wSd (ad 12 1) (ad 13 0) (ad 14 0) sv, wCopy V (ad 13) A, wCopy V (ad 14) B, wHi (ad 12 2) (ad 12 3) (nI x) (nI s), wRs V (ad 12 3) 6 (fun j_ => ad (5 + j_) 0), wRing V (ad 5) (Hs 0), wRing V (ad 6) (Hs 1), wRing V (ad 7) (Hs 2), wRing V (ad 8) (Hs 3), wRing V (ad 9) (Hs 4), wRing V (ad 10) (Hs 5), wRs V (ad 12 4) 2 (fun j_ => ad (3 + j_) 0), wRing V (ad 3) X3, wRing V (ad 4) X4, wKz V (ad 12 5) kp, wSight V (ad 15) U, wSusp V (ad 16) Y])) (fun r_ w_ => r_ = (-2) ∧ w_ = (List.flatten [wMain ad, wRing V (ad 0) X0, wRing V (ad 1) X1, wRing V (ad 2) X2, wTx V (ad 11) L (nI z) b c d u, wRd (ad 12 0) (ad 11 0) lt, wSd (ad 12 1) (ad 13 0) (ad 14 0) sv, wCopy V (ad 13) A, wCopy V (ad 14) B, wHi (ad 12 2) (ad 12 3) (nI x) (nI s), wRs V (ad 12 3) 6 (fun j_ => ad (5 + j_) 0), wRing V (ad 5) (Hs 0), wRing V (ad 6) (Hs 1), wRing V (ad 7) (Hs 2), wRing V (ad 8) (Hs 3), wRing V (ad 9) (Hs 4), wRing V (ad 10) (Hs 5), wRs V (ad 12 4) 2 (fun j_ => ad (3 + j_) 0), wRing V (ad 3) X3, wRing V (ad 4) X4, wKz V (ad 12 5) kp, wSight V (ad 15) U, wSusp V (ad 16) Y])) := by
  refine CI_intro (by decide) (Nat.le_of_ble_eq_true rfl) (fun K cx hret => ?_)
  show G V K 2 0 0 ((List.flatten [wMain ad, wRing V (ad 0) X0, wRing V (ad 1) X1, wRing V (ad 2) X2, wTx V (ad 11) L (nI z) b c d u, wRd (ad 12 0) (ad 11 0) lt, wSd (ad 12 1) (ad 13 0) (ad 14 0) sv, wCopy V (ad 13) A, wCopy V (ad 14) B, wHi (ad 12 2) (ad 12 3) (nI x) (nI s), wRs V (ad 12 3) 6 (fun j_ => ad (5 + j_) 0), wRing V (ad 5) (Hs 0), wRing V (ad 6) (Hs 1), wRing V (ad 7) (Hs 2), wRing V (ad 8) (Hs 3), wRing V (ad 9) (Hs 4), wRing V (ad 10) (Hs 5), wRs V (ad 12 4) 2 (fun j_ => ad (3 + j_) 0), wRing V (ad 3) X3, wRing V (ad 4) X4, wKz V (ad 12 5) kp, wSight V (ad 15) U, wSusp V (ad 16) Y])) 0 [(0, .ref (ad 12 6)), (1, .int l)] []
  obtain ⟨hz, hx, hs, hn, hn6, hn1, ho, ho4, hm, hm7, hat, hbR, hbH, hbI, hk, hk6, hU⟩ := hC
  refine g_iload_n (v := l) cx dX8_back_0 rfl ?_
  refine g_if_lt cx 9 dX8_back_1 (by decide) (fun hw1 => absurd hw1 (rf_ltMN hl (nl 0) (by omega) (by omega) (by omega))) (fun hw1 => ?_)
  refine g_iload_n (v := l) cx dX8_back_4 rfl ?_
  refine g_iconst (v := 2) cx dX8_back_5 (by decide) ?_
  refine g_icmp_lt cx 11 dX8_back_6 (by decide) (fun hw2 => ?_) (fun hw2 => absurd (rf_ltMP hl (nl 2) (by omega) (by omega) (by omega)) hw2)
  refine g_aload_n (v := ad 12 6) cx dX8_back_11 rfl ?_
  refine b_get (v := .ref (ad 12 5)) cx fk_X8_56 dX8_back_12 0 0 rfl rfl rfl ?_
  refine g_iload_n (v := l) cx dX8_back_15 rfl ?_
  refine b_zald cx dX8_back_16 20 0 1 rfl rfl (hl) (by omega) (by first | decide | omega) ?_
  refine g_top (y := kp 1) (rfl) ?_
  refine g_if_ne cx 23 dX8_back_17 (by decide) (fun hw3 => absurd (h1) hw3) (fun hw3 => ?_)
  refine g_bipush (v := (-2)) cx dX8_back_20 (by decide) ?_
  exact hret _ _ _ _ dX8_back_22 (rfl) ⟨rfl, rfl⟩
def rm_X8_back_ok1 : Room := { frames := 2, cells := 0, slots := 0, locals := 47 }
set_option maxRecDepth 100000 in
set_option maxHeartbeats 4000000 in
theorem c_X8_back_ok1 (V : VT) (ad : Nat → Nat → Nat) (X0 X1 X2 X3 X4 : S2) (Hs : Nat → S2) (L : Nat → Int32) (z : Nat) (b c d u lt sv : Int32) (A B : S2) (x s : Nat) (kp : Nat → Int32) (U Y : S2) (n o m k : Nat) (hC : okC X0 X3 X4 Hs z x s n o m k U) (l : Int32) (hl : l = nI 1) (h1 : ¬ kp 1 = 0) : CI V yX8_back cX8_back 2 .int rm_X8_back_ok1 [.ref (ad 12 6), .int l] ((List.flatten [wMain ad, wRing V (ad 0) X0, wRing V (ad 1) X1, wRing V (ad 2) X2, wTx V (ad 11) L (nI z) b c d u, wRd (ad 12 0) (ad 11 0) lt, wSd (ad 12 1) (ad 13 0) (ad 14 0) sv, wCopy V (ad 13) A, wCopy V (ad 14) B, wHi (ad 12 2) (ad 12 3) (nI x) (nI s), wRs V (ad 12 3) 6 (fun j_ => ad (5 + j_) 0), wRing V (ad 5) (Hs 0), wRing V (ad 6) (Hs 1), wRing V (ad 7) (Hs 2), wRing V (ad 8) (Hs 3), wRing V (ad 9) (Hs 4), wRing V (ad 10) (Hs 5), wRs V (ad 12 4) 2 (fun j_ => ad (3 + j_) 0), wRing V (ad 3) X3, wRing V (ad 4) X4, wKz V (ad 12 5) kp, wSight V (ad 15) U, wSusp V (ad 16) Y])) (fun r_ w_ => r_ = X4 5 0 ∧ w_ = (List.flatten [wMain ad, wRing V (ad 0) (rCopy X0 X4), wRing V (ad 1) X1, wRing V (ad 2) X2, wTx V (ad 11) L (nI z) b c d u, wRd (ad 12 0) (ad 11 0) lt, wSd (ad 12 1) (ad 13 0) (ad 14 0) sv, wCopy V (ad 13) A, wCopy V (ad 14) B, wHi (ad 12 2) (ad 12 3) (nI x) 0, wRs V (ad 12 3) 6 (fun j_ => ad (5 + j_) 0), wRing V (ad 5) (Hs 0), wRing V (ad 6) (Hs 1), wRing V (ad 7) (Hs 2), wRing V (ad 8) (Hs 3), wRing V (ad 9) (Hs 4), wRing V (ad 10) (Hs 5), wRs V (ad 12 4) 2 (fun j_ => ad (3 + j_) 0), wRing V (ad 3) X3, wRing V (ad 4) X4, wKz V (ad 12 5) kp, wSight V (ad 15) U, wSusp V (ad 16) Y])) := by
  refine CI_intro (by decide) (Nat.le_of_ble_eq_true rfl) (fun K cx hret => ?_)
  show G V K 2 0 0 ((List.flatten [wMain ad, wRing V (ad 0) X0, wRing V (ad 1) X1, wRing V (ad 2) X2, wTx V (ad 11) L (nI z) b c d u, wRd (ad 12 0) (ad 11 0) lt, wSd (ad 12 1) (ad 13 0) (ad 14 0) sv, wCopy V (ad 13) A, wCopy V (ad 14) B, wHi (ad 12 2) (ad 12 3) (nI x) (nI s), wRs V (ad 12 3) 6 (fun j_ => ad (5 + j_) 0), wRing V (ad 5) (Hs 0), wRing V (ad 6) (Hs 1), wRing V (ad 7) (Hs 2), wRing V (ad 8) (Hs 3), wRing V (ad 9) (Hs 4), wRing V (ad 10) (Hs 5), wRs V (ad 12 4) 2 (fun j_ => ad (3 + j_) 0), wRing V (ad 3) X3, wRing V (ad 4) X4, wKz V (ad 12 5) kp, wSight V (ad 15) U, wSusp V (ad 16) Y])) 0 [(0, .ref (ad 12 6)), (1, .int l)] []
  obtain ⟨hz, hx, hs, hn, hn6, hn1, ho, ho4, hm, hm7, hat, hbR, hbH, hbI, hk, hk6, hU⟩ := hC
  refine g_iload_n (v := l) cx dX8_back_0 rfl ?_
  refine g_if_lt cx 9 dX8_back_1 (by decide) (fun hw1 => absurd hw1 (rf_ltMN hl (nl 0) (by omega) (by omega) (by omega))) (fun hw1 => ?_)
  refine g_iload_n (v := l) cx dX8_back_4 rfl ?_
  refine g_iconst (v := 2) cx dX8_back_5 (by decide) ?_
  refine g_icmp_lt cx 11 dX8_back_6 (by decide) (fun hw2 => ?_) (fun hw2 => absurd (rf_ltMP hl (nl 2) (by omega) (by omega) (by omega)) hw2)
  refine g_aload_n (v := ad 12 6) cx dX8_back_11 rfl ?_
  refine b_get (v := .ref (ad 12 5)) cx fk_X8_56 dX8_back_12 0 0 rfl rfl rfl ?_
  refine g_iload_n (v := l) cx dX8_back_15 rfl ?_
  refine b_zald cx dX8_back_16 20 0 1 rfl rfl (hl) (by omega) (by first | decide | omega) ?_
  refine g_top (y := kp 1) (rfl) ?_
  refine g_if_ne cx 23 dX8_back_17 (by decide) (fun hw3 => ?_) (fun hw3 => absurd hw3 (h1))
  refine g_aload_n (v := ad 12 6) cx dX8_back_23 rfl ?_
  refine b_get (v := .ref (ad 0 0)) cx fk_X8_10 dX8_back_24 0 0 rfl rfl rfl ?_
  refine g_aload_n (v := ad 12 6) cx dX8_back_27 rfl ?_
  refine b_get (v := .ref (ad 12 4)) cx fk_X8_52 dX8_back_28 0 0 rfl rfl rfl ?_
  refine g_iload_n (v := l) cx dX8_back_31 rfl ?_
  refine b_aald (b := ad 4 0) cx dX8_back_32 17 0 1 rfl rfl (hl) (by omega) (by decide) rfl ?_
  refine b_callv (Ws' := [wMain ad, wRing V (ad 0) (rCopy X0 X4), wRing V (ad 1) X1, wRing V (ad 2) X2, wTx V (ad 11) L (nI z) b c d u, wRd (ad 12 0) (ad 11 0) lt, wSd (ad 12 1) (ad 13 0) (ad 14 0) sv, wCopy V (ad 13) A, wCopy V (ad 14) B, wHi (ad 12 2) (ad 12 3) (nI x) (nI s), wRs V (ad 12 3) 6 (fun j_ => ad (5 + j_) 0), wRing V (ad 5) (Hs 0), wRing V (ad 6) (Hs 1), wRing V (ad 7) (Hs 2), wRing V (ad 8) (Hs 3), wRing V (ad 9) (Hs 4), wRing V (ad 10) (Hs 5), wRs V (ad 12 4) 2 (fun j_ => ad (3 + j_) 0), wRing V (ad 3) X3, wRing V (ad 4) X4, wKz V (ad 12 5) kp, wSight V (ad 15) U, wSusp V (ad 16) Y]) (wcs := [wRing V (ad 0) X0, wRing V (ad 4) X4]) (wos := [wRing V (ad 0) (rCopy X0 X4), wRing V (ad 4) X4]) (As := [.ref (ad 4 0)]) (rest := []) cx (c_X3_copyFrom V (ad 0) X0 (ad 4) X4 hbI.2.1 hbI.2.2.1 hbI.2.2.2) ml_X8_95 dX8_back_33 [1, 19] rfl rfl (by simp only [List.flatten_cons, List.flatten_nil, List.append_nil, List.append_assoc]) (by simp only [List.flatten_cons, List.flatten_nil, List.append_nil, List.append_assoc]) [[ad 0 0, ad 0 1, ad 0 2, ad 0 3, ad 0 4, ad 0 5], [ad 4 0, ad 4 1, ad 4 2, ad 4 3, ad 4 4, ad 4 5]] rfl rfl rfl 0 0 3 rfl rfl rfl rfl rfl rfl (Nat.le_of_ble_eq_true rfl) ⟨Nat.le_of_ble_eq_true rfl, Nat.le_of_ble_eq_true rfl⟩ ⟨Nat.le_refl _, Nat.le_refl _⟩ ?_
  refine g_aload_n (v := ad 12 6) cx dX8_back_36 rfl ?_
  refine b_get (v := .ref (ad 12 2)) cx fk_X8_48 dX8_back_37 0 0 rfl rfl rfl ?_
  refine g_iconst (v := 0) cx dX8_back_40 (by decide) ?_
  refine b_put (blk' := wHi (ad 12 2) (ad 12 3) (nI x) 0) (Ws' := [wMain ad, wRing V (ad 0) (rCopy X0 X4), wRing V (ad 1) X1, wRing V (ad 2) X2, wTx V (ad 11) L (nI z) b c d u, wRd (ad 12 0) (ad 11 0) lt, wSd (ad 12 1) (ad 13 0) (ad 14 0) sv, wCopy V (ad 13) A, wCopy V (ad 14) B, wHi (ad 12 2) (ad 12 3) (nI x) 0, wRs V (ad 12 3) 6 (fun j_ => ad (5 + j_) 0), wRing V (ad 5) (Hs 0), wRing V (ad 6) (Hs 1), wRing V (ad 7) (Hs 2), wRing V (ad 8) (Hs 3), wRing V (ad 9) (Hs 4), wRing V (ad 10) (Hs 5), wRs V (ad 12 4) 2 (fun j_ => ad (3 + j_) 0), wRing V (ad 3) X3, wRing V (ad 4) X4, wKz V (ad 12 5) kp, wSight V (ad 15) U, wSusp V (ad 16) Y]) cx fk_X8_158 dX8_back_41 9 0 rfl rfl (rfl) (rfl) (Nat.le_of_ble_eq_true rfl) rfl rfl ?_
  refine g_aload_n (v := ad 12 6) cx dX8_back_44 rfl ?_
  refine b_get (v := .ref (ad 0 0)) cx fk_X8_10 dX8_back_45 0 0 rfl rfl rfl ?_
  refine b_get (v := .int ((rCopy X0 X4) 5 0)) cx fk_X8_92 dX8_back_48 1 0 rfl rfl rfl ?_
  exact hret _ _ _ _ dX8_back_51 (rfl) ⟨rfl, rfl⟩
def rm_X8_forget_ok : Room := { frames := 0, cells := 0, slots := 0, locals := 0 }
set_option maxRecDepth 100000 in
set_option maxHeartbeats 4000000 in
theorem c_X8_forget_ok (V : VT) (ad : Nat → Nat → Nat) (X0 X1 X2 X3 X4 : S2) (Hs : Nat → S2) (L : Nat → Int32) (z : Nat) (b c d u lt sv : Int32) (A B : S2) (x s : Nat) (kp : Nat → Int32) (U Y : S2) (n o m k : Nat) (hC : okC X0 X3 X4 Hs z x s n o m k U)   : CI V yX8_forget cX8_forget 2 .int rm_X8_forget_ok [.ref (ad 12 6)] ((List.flatten [wMain ad, wRing V (ad 0) X0, wRing V (ad 1) X1, wRing V (ad 2) X2, wTx V (ad 11) L (nI z) b c d u, wRd (ad 12 0) (ad 11 0) lt, wSd (ad 12 1) (ad 13 0) (ad 14 0) sv, wCopy V (ad 13) A, wCopy V (ad 14) B, wHi (ad 12 2) (ad 12 3) (nI x) (nI s), wRs V (ad 12 3) 6 (fun j_ => ad (5 + j_) 0), wRing V (ad 5) (Hs 0), wRing V (ad 6) (Hs 1), wRing V (ad 7) (Hs 2), wRing V (ad 8) (Hs 3), wRing V (ad 9) (Hs 4), wRing V (ad 10) (Hs 5), wRs V (ad 12 4) 2 (fun j_ => ad (3 + j_) 0), wRing V (ad 3) X3, wRing V (ad 4) X4, wKz V (ad 12 5) kp, wSight V (ad 15) U, wSusp V (ad 16) Y])) (fun r_ w_ => r_ = U 2 0 ∧ w_ = (List.flatten [wMain ad, wRing V (ad 0) X0, wRing V (ad 1) X1, wRing V (ad 2) X2, wTx V (ad 11) L (nI z) b c d u, wRd (ad 12 0) (ad 11 0) lt, wSd (ad 12 1) (ad 13 0) (ad 14 0) sv, wCopy V (ad 13) A, wCopy V (ad 14) B, wHi (ad 12 2) (ad 12 3) (nI x) (nI s), wRs V (ad 12 3) 6 (fun j_ => ad (5 + j_) 0), wRing V (ad 5) (Hs 0), wRing V (ad 6) (Hs 1), wRing V (ad 7) (Hs 2), wRing V (ad 8) (Hs 3), wRing V (ad 9) (Hs 4), wRing V (ad 10) (Hs 5), wRs V (ad 12 4) 2 (fun j_ => ad (3 + j_) 0), wRing V (ad 3) X3, wRing V (ad 4) X4, wKz V (ad 12 5) kp, wSight V (ad 15) (u2 U 2 0 0), wSusp V (ad 16) Y])) := by
  refine CI_intro (by decide) (Nat.le_of_ble_eq_true rfl) (fun K cx hret => ?_)
  show G V K 2 0 0 ((List.flatten [wMain ad, wRing V (ad 0) X0, wRing V (ad 1) X1, wRing V (ad 2) X2, wTx V (ad 11) L (nI z) b c d u, wRd (ad 12 0) (ad 11 0) lt, wSd (ad 12 1) (ad 13 0) (ad 14 0) sv, wCopy V (ad 13) A, wCopy V (ad 14) B, wHi (ad 12 2) (ad 12 3) (nI x) (nI s), wRs V (ad 12 3) 6 (fun j_ => ad (5 + j_) 0), wRing V (ad 5) (Hs 0), wRing V (ad 6) (Hs 1), wRing V (ad 7) (Hs 2), wRing V (ad 8) (Hs 3), wRing V (ad 9) (Hs 4), wRing V (ad 10) (Hs 5), wRs V (ad 12 4) 2 (fun j_ => ad (3 + j_) 0), wRing V (ad 3) X3, wRing V (ad 4) X4, wKz V (ad 12 5) kp, wSight V (ad 15) U, wSusp V (ad 16) Y])) 0 [(0, .ref (ad 12 6))] []
  obtain ⟨hz, hx, hs, hn, hn6, hn1, ho, ho4, hm, hm7, hat, hbR, hbH, hbI, hk, hk6, hU⟩ := hC
  refine g_aload_n (v := ad 12 6) cx dX8_forget_0 rfl ?_
  refine b_get (v := .ref (ad 15 0)) cx fk_X8_63 dX8_forget_1 0 0 rfl rfl rfl ?_
  refine b_get (v := .int (U 2 0)) cx fk_X8_200 dX8_forget_4 21 0 rfl rfl rfl ?_
  refine g_istore_n (lv' := [(0, .ref (ad 12 6)), (1, .int (U 2 0))]) cx dX8_forget_7 (by decide) rfl ?_
  refine g_aload_n (v := ad 12 6) cx dX8_forget_8 rfl ?_
  refine b_get (v := .ref (ad 15 0)) cx fk_X8_63 dX8_forget_9 0 0 rfl rfl rfl ?_
  refine g_iconst (v := 0) cx dX8_forget_12 (by decide) ?_
  refine b_put (blk' := wSight V (ad 15) (u2 U 2 0 0)) (Ws' := [wMain ad, wRing V (ad 0) X0, wRing V (ad 1) X1, wRing V (ad 2) X2, wTx V (ad 11) L (nI z) b c d u, wRd (ad 12 0) (ad 11 0) lt, wSd (ad 12 1) (ad 13 0) (ad 14 0) sv, wCopy V (ad 13) A, wCopy V (ad 14) B, wHi (ad 12 2) (ad 12 3) (nI x) (nI s), wRs V (ad 12 3) 6 (fun j_ => ad (5 + j_) 0), wRing V (ad 5) (Hs 0), wRing V (ad 6) (Hs 1), wRing V (ad 7) (Hs 2), wRing V (ad 8) (Hs 3), wRing V (ad 9) (Hs 4), wRing V (ad 10) (Hs 5), wRs V (ad 12 4) 2 (fun j_ => ad (3 + j_) 0), wRing V (ad 3) X3, wRing V (ad 4) X4, wKz V (ad 12 5) kp, wSight V (ad 15) (u2 U 2 0 0), wSusp V (ad 16) Y]) cx fk_X8_200 dX8_forget_13 21 0 rfl rfl (rfl) (rfl) (Nat.le_of_ble_eq_true rfl) rfl rfl ?_
  refine g_iload_n (v := U 2 0) cx dX8_forget_16 rfl ?_
  exact hret _ _ _ _ dX8_forget_17 (rfl) ⟨rfl, rfl⟩
def rm_X8_sees_bad : Room := { frames := 0, cells := 0, slots := 0, locals := 0 }
set_option maxRecDepth 100000 in
set_option maxHeartbeats 4000000 in
theorem c_X8_sees_bad (V : VT) (ad : Nat → Nat → Nat) (X0 X1 X2 X3 X4 : S2) (Hs : Nat → S2) (L : Nat → Int32) (z : Nat) (b c d u lt sv : Int32) (A B : S2) (x s : Nat) (kp : Nat → Int32) (U Y : S2) (n o m k : Nat) (hC : okC X0 X3 X4 Hs z x s n o m k U) (l v : Int32) (hb : ¬ (¬ l < 0 ∧ ¬ 6 ≤ l ∧ ((¬ l < 4 ∧ v = (-9)) ∨ (¬ v < 0 ∧ v ≤ 255)))) : CI V yX8_sees cX8_sees 4 .int rm_X8_sees_bad [.ref (ad 12 6), .int l, .int v] ((List.flatten [wMain ad, wRing V (ad 0) X0, wRing V (ad 1) X1, wRing V (ad 2) X2, wTx V (ad 11) L (nI z) b c d u, wRd (ad 12 0) (ad 11 0) lt, wSd (ad 12 1) (ad 13 0) (ad 14 0) sv, wCopy V (ad 13) A, wCopy V (ad 14) B, wHi (ad 12 2) (ad 12 3) (nI x) (nI s), wRs V (ad 12 3) 6 (fun j_ => ad (5 + j_) 0), wRing V (ad 5) (Hs 0), wRing V (ad 6) (Hs 1), wRing V (ad 7) (Hs 2), wRing V (ad 8) (Hs 3), wRing V (ad 9) (Hs 4), wRing V (ad 10) (Hs 5), wRs V (ad 12 4) 2 (fun j_ => ad (3 + j_) 0), wRing V (ad 3) X3, wRing V (ad 4) X4, wKz V (ad 12 5) kp, wSight V (ad 15) U, wSusp V (ad 16) Y])) (fun r_ w_ => r_ = (-1) ∧ w_ = (List.flatten [wMain ad, wRing V (ad 0) X0, wRing V (ad 1) X1, wRing V (ad 2) X2, wTx V (ad 11) L (nI z) b c d u, wRd (ad 12 0) (ad 11 0) lt, wSd (ad 12 1) (ad 13 0) (ad 14 0) sv, wCopy V (ad 13) A, wCopy V (ad 14) B, wHi (ad 12 2) (ad 12 3) (nI x) (nI s), wRs V (ad 12 3) 6 (fun j_ => ad (5 + j_) 0), wRing V (ad 5) (Hs 0), wRing V (ad 6) (Hs 1), wRing V (ad 7) (Hs 2), wRing V (ad 8) (Hs 3), wRing V (ad 9) (Hs 4), wRing V (ad 10) (Hs 5), wRs V (ad 12 4) 2 (fun j_ => ad (3 + j_) 0), wRing V (ad 3) X3, wRing V (ad 4) X4, wKz V (ad 12 5) kp, wSight V (ad 15) U, wSusp V (ad 16) Y])) := by
  refine CI_intro (by decide) (Nat.le_of_ble_eq_true rfl) (fun K cx hret => ?_)
  show G V K 4 0 0 ((List.flatten [wMain ad, wRing V (ad 0) X0, wRing V (ad 1) X1, wRing V (ad 2) X2, wTx V (ad 11) L (nI z) b c d u, wRd (ad 12 0) (ad 11 0) lt, wSd (ad 12 1) (ad 13 0) (ad 14 0) sv, wCopy V (ad 13) A, wCopy V (ad 14) B, wHi (ad 12 2) (ad 12 3) (nI x) (nI s), wRs V (ad 12 3) 6 (fun j_ => ad (5 + j_) 0), wRing V (ad 5) (Hs 0), wRing V (ad 6) (Hs 1), wRing V (ad 7) (Hs 2), wRing V (ad 8) (Hs 3), wRing V (ad 9) (Hs 4), wRing V (ad 10) (Hs 5), wRs V (ad 12 4) 2 (fun j_ => ad (3 + j_) 0), wRing V (ad 3) X3, wRing V (ad 4) X4, wKz V (ad 12 5) kp, wSight V (ad 15) U, wSusp V (ad 16) Y])) 0 [(0, .ref (ad 12 6)), (1, .int l), (2, .int v)] []
  obtain ⟨hz, hx, hs, hn, hn6, hn1, ho, ho4, hm, hm7, hat, hbR, hbH, hbI, hk, hk6, hU⟩ := hC
  refine g_iload_n (v := l) cx dX8_sees_0 rfl ?_
  refine g_iconst (v := 4) cx dX8_sees_1 (by decide) ?_
  refine g_icmp_lt cx 15 dX8_sees_2 (by decide) (fun hw1 => ?_) (fun hw1 => ?_)
  · skip
    refine g_iconst (v := 0) cx dX8_sees_15 (by decide) ?_
    refine g_istore_n (lv' := [(0, .ref (ad 12 6)), (1, .int l), (2, .int v), (3, .int 0)]) cx dX8_sees_16 (by decide) rfl ?_
    refine g_iload_n (v := l) cx dX8_sees_17 rfl ?_
    refine g_if_lt cx 42 dX8_sees_18 (by decide) (fun hw2 => ?_) (fun hw2 => ?_)
    · skip
      refine g_iconst (v := (-1)) cx dX8_sees_42 (by decide) ?_
      exact hret _ _ _ _ dX8_sees_43 (rfl) ⟨rfl, rfl⟩
    · skip
      refine g_iload_n (v := l) cx dX8_sees_21 rfl ?_
      refine g_bipush (v := 6) cx dX8_sees_22 (by decide) ?_
      refine g_icmp_ge cx 42 dX8_sees_24 (by decide) (fun hw3 => ?_) (fun hw3 => ?_)
      · skip
        refine g_iconst (v := (-1)) cx dX8_sees_42 (by decide) ?_
        exact hret _ _ _ _ dX8_sees_43 (rfl) ⟨rfl, rfl⟩
      · skip
        refine g_iload_n (v := 0) cx dX8_sees_27 rfl ?_
        refine g_if_ne cx 44 dX8_sees_28 (by decide) (fun hw4 => absurd (by decide) hw4) (fun hw4 => ?_)
        refine g_iload_n (v := v) cx dX8_sees_31 rfl ?_
        refine g_if_lt cx 42 dX8_sees_32 (by decide) (fun hw5 => ?_) (fun hw5 => ?_)
        · skip
          refine g_iconst (v := (-1)) cx dX8_sees_42 (by decide) ?_
          exact hret _ _ _ _ dX8_sees_43 (rfl) ⟨rfl, rfl⟩
        · skip
          refine g_iload_n (v := v) cx dX8_sees_35 rfl ?_
          refine g_sipush (v := 255) cx dX8_sees_36 (by decide) ?_
          refine g_icmp_le cx 44 dX8_sees_39 (by decide) (fun hw6 => ?_) (fun hw6 => ?_)
          · skip
            exact absurd ⟨hw2, hw3, Or.inr ⟨hw5, hw6⟩⟩ hb
          · skip
            refine g_iconst (v := (-1)) cx dX8_sees_42 (by decide) ?_
            exact hret _ _ _ _ dX8_sees_43 (rfl) ⟨rfl, rfl⟩
  · skip
    refine g_iload_n (v := v) cx dX8_sees_5 rfl ?_
    refine g_bipush (v := (-9)) cx dX8_sees_6 (by decide) ?_
    refine g_icmp_ne cx 15 dX8_sees_8 (by decide) (fun hw7 => ?_) (fun hw7 => ?_)
    · skip
      refine g_iconst (v := 0) cx dX8_sees_15 (by decide) ?_
      refine g_istore_n (lv' := [(0, .ref (ad 12 6)), (1, .int l), (2, .int v), (3, .int 0)]) cx dX8_sees_16 (by decide) rfl ?_
      refine g_iload_n (v := l) cx dX8_sees_17 rfl ?_
      refine g_if_lt cx 42 dX8_sees_18 (by decide) (fun hw8 => ?_) (fun hw8 => ?_)
      · skip
        refine g_iconst (v := (-1)) cx dX8_sees_42 (by decide) ?_
        exact hret _ _ _ _ dX8_sees_43 (rfl) ⟨rfl, rfl⟩
      · skip
        refine g_iload_n (v := l) cx dX8_sees_21 rfl ?_
        refine g_bipush (v := 6) cx dX8_sees_22 (by decide) ?_
        refine g_icmp_ge cx 42 dX8_sees_24 (by decide) (fun hw9 => ?_) (fun hw9 => ?_)
        · skip
          refine g_iconst (v := (-1)) cx dX8_sees_42 (by decide) ?_
          exact hret _ _ _ _ dX8_sees_43 (rfl) ⟨rfl, rfl⟩
        · skip
          refine g_iload_n (v := 0) cx dX8_sees_27 rfl ?_
          refine g_if_ne cx 44 dX8_sees_28 (by decide) (fun hw10 => absurd (by decide) hw10) (fun hw10 => ?_)
          refine g_iload_n (v := v) cx dX8_sees_31 rfl ?_
          refine g_if_lt cx 42 dX8_sees_32 (by decide) (fun hw11 => ?_) (fun hw11 => ?_)
          · skip
            refine g_iconst (v := (-1)) cx dX8_sees_42 (by decide) ?_
            exact hret _ _ _ _ dX8_sees_43 (rfl) ⟨rfl, rfl⟩
          · skip
            refine g_iload_n (v := v) cx dX8_sees_35 rfl ?_
            refine g_sipush (v := 255) cx dX8_sees_36 (by decide) ?_
            refine g_icmp_le cx 44 dX8_sees_39 (by decide) (fun hw12 => ?_) (fun hw12 => ?_)
            · skip
              exact absurd ⟨hw8, hw9, Or.inr ⟨hw11, hw12⟩⟩ hb
            · skip
              refine g_iconst (v := (-1)) cx dX8_sees_42 (by decide) ?_
              exact hret _ _ _ _ dX8_sees_43 (rfl) ⟨rfl, rfl⟩
    · skip
      refine g_iconst (v := 1) cx dX8_sees_11 (by decide) ?_
      refine g_goto cx 16 dX8_sees_12 (by decide) ?_
      refine g_istore_n (lv' := [(0, .ref (ad 12 6)), (1, .int l), (2, .int v), (3, .int 1)]) cx dX8_sees_16 (by decide) rfl ?_
      refine g_iload_n (v := l) cx dX8_sees_17 rfl ?_
      refine g_if_lt cx 42 dX8_sees_18 (by decide) (fun hw13 => ?_) (fun hw13 => ?_)
      · skip
        refine g_iconst (v := (-1)) cx dX8_sees_42 (by decide) ?_
        exact hret _ _ _ _ dX8_sees_43 (rfl) ⟨rfl, rfl⟩
      · skip
        refine g_iload_n (v := l) cx dX8_sees_21 rfl ?_
        refine g_bipush (v := 6) cx dX8_sees_22 (by decide) ?_
        refine g_icmp_ge cx 42 dX8_sees_24 (by decide) (fun hw14 => ?_) (fun hw14 => ?_)
        · skip
          refine g_iconst (v := (-1)) cx dX8_sees_42 (by decide) ?_
          exact hret _ _ _ _ dX8_sees_43 (rfl) ⟨rfl, rfl⟩
        · skip
          refine g_iload_n (v := 1) cx dX8_sees_27 rfl ?_
          refine g_if_ne cx 44 dX8_sees_28 (by decide) (fun hw15 => ?_) (fun hw15 => absurd hw15 (by decide))
          exact absurd ⟨hw13, hw14, Or.inl ⟨hw1, hw7⟩⟩ hb
def rm_X8_sees_fullN : Room := { frames := 0, cells := 0, slots := 0, locals := 0 }
set_option maxRecDepth 100000 in
set_option maxHeartbeats 4000000 in
theorem c_X8_sees_fullN (V : VT) (ad : Nat → Nat → Nat) (X0 X1 X2 X3 X4 : S2) (Hs : Nat → S2) (L : Nat → Int32) (z : Nat) (b c d u lt sv : Int32) (A B : S2) (x s : Nat) (kp : Nat → Int32) (U Y : S2) (n o m k : Nat) (hC : okC X0 X3 X4 Hs z x s n o m k U) (l v : Int32) (q : Nat) (hl : l = nI q) (hq : q < 6) (h4 : 4 ≤ q) (hv : v = (-9)) (h3 : k = 6) : CI V yX8_sees cX8_sees 4 .int rm_X8_sees_fullN [.ref (ad 12 6), .int l, .int v] ((List.flatten [wMain ad, wRing V (ad 0) X0, wRing V (ad 1) X1, wRing V (ad 2) X2, wTx V (ad 11) L (nI z) b c d u, wRd (ad 12 0) (ad 11 0) lt, wSd (ad 12 1) (ad 13 0) (ad 14 0) sv, wCopy V (ad 13) A, wCopy V (ad 14) B, wHi (ad 12 2) (ad 12 3) (nI x) (nI s), wRs V (ad 12 3) 6 (fun j_ => ad (5 + j_) 0), wRing V (ad 5) (Hs 0), wRing V (ad 6) (Hs 1), wRing V (ad 7) (Hs 2), wRing V (ad 8) (Hs 3), wRing V (ad 9) (Hs 4), wRing V (ad 10) (Hs 5), wRs V (ad 12 4) 2 (fun j_ => ad (3 + j_) 0), wRing V (ad 3) X3, wRing V (ad 4) X4, wKz V (ad 12 5) kp, wSight V (ad 15) U, wSusp V (ad 16) Y])) (fun r_ w_ => r_ = (-3) ∧ w_ = (List.flatten [wMain ad, wRing V (ad 0) X0, wRing V (ad 1) X1, wRing V (ad 2) X2, wTx V (ad 11) L (nI z) b c d u, wRd (ad 12 0) (ad 11 0) lt, wSd (ad 12 1) (ad 13 0) (ad 14 0) sv, wCopy V (ad 13) A, wCopy V (ad 14) B, wHi (ad 12 2) (ad 12 3) (nI x) (nI s), wRs V (ad 12 3) 6 (fun j_ => ad (5 + j_) 0), wRing V (ad 5) (Hs 0), wRing V (ad 6) (Hs 1), wRing V (ad 7) (Hs 2), wRing V (ad 8) (Hs 3), wRing V (ad 9) (Hs 4), wRing V (ad 10) (Hs 5), wRs V (ad 12 4) 2 (fun j_ => ad (3 + j_) 0), wRing V (ad 3) X3, wRing V (ad 4) X4, wKz V (ad 12 5) kp, wSight V (ad 15) U, wSusp V (ad 16) Y])) := by
  refine CI_intro (by decide) (Nat.le_of_ble_eq_true rfl) (fun K cx hret => ?_)
  show G V K 4 0 0 ((List.flatten [wMain ad, wRing V (ad 0) X0, wRing V (ad 1) X1, wRing V (ad 2) X2, wTx V (ad 11) L (nI z) b c d u, wRd (ad 12 0) (ad 11 0) lt, wSd (ad 12 1) (ad 13 0) (ad 14 0) sv, wCopy V (ad 13) A, wCopy V (ad 14) B, wHi (ad 12 2) (ad 12 3) (nI x) (nI s), wRs V (ad 12 3) 6 (fun j_ => ad (5 + j_) 0), wRing V (ad 5) (Hs 0), wRing V (ad 6) (Hs 1), wRing V (ad 7) (Hs 2), wRing V (ad 8) (Hs 3), wRing V (ad 9) (Hs 4), wRing V (ad 10) (Hs 5), wRs V (ad 12 4) 2 (fun j_ => ad (3 + j_) 0), wRing V (ad 3) X3, wRing V (ad 4) X4, wKz V (ad 12 5) kp, wSight V (ad 15) U, wSusp V (ad 16) Y])) 0 [(0, .ref (ad 12 6)), (1, .int l), (2, .int v)] []
  obtain ⟨hz, hx, hs, hn, hn6, hn1, ho, ho4, hm, hm7, hat, hbR, hbH, hbI, hk, hk6, hU⟩ := hC
  refine g_iload_n (v := l) cx dX8_sees_0 rfl ?_
  refine g_iconst (v := 4) cx dX8_sees_1 (by decide) ?_
  refine g_icmp_lt cx 15 dX8_sees_2 (by decide) (fun hw1 => absurd hw1 (rf_ltMN hl (nl 4) (by omega) (by omega) (by omega))) (fun hw1 => ?_)
  refine g_iload_n (v := v) cx dX8_sees_5 rfl ?_
  refine g_bipush (v := (-9)) cx dX8_sees_6 (by decide) ?_
  refine g_icmp_ne cx 15 dX8_sees_8 (by decide) (fun hw2 => absurd (hv) hw2) (fun hw2 => ?_)
  refine g_iconst (v := 1) cx dX8_sees_11 (by decide) ?_
  refine g_goto cx 16 dX8_sees_12 (by decide) ?_
  refine g_istore_n (lv' := [(0, .ref (ad 12 6)), (1, .int l), (2, .int v), (3, .int 1)]) cx dX8_sees_16 (by decide) rfl ?_
  refine g_iload_n (v := l) cx dX8_sees_17 rfl ?_
  refine g_if_lt cx 42 dX8_sees_18 (by decide) (fun hw3 => absurd hw3 (rf_ltMN hl (nl 0) (by omega) (by omega) (by omega))) (fun hw3 => ?_)
  refine g_iload_n (v := l) cx dX8_sees_21 rfl ?_
  refine g_bipush (v := 6) cx dX8_sees_22 (by decide) ?_
  refine g_icmp_ge cx 42 dX8_sees_24 (by decide) (fun hw4 => absurd hw4 (rf_geMN hl (nl 6) (by omega) (by omega) (by omega))) (fun hw4 => ?_)
  refine g_iload_n (v := 1) cx dX8_sees_27 rfl ?_
  refine g_if_ne cx 44 dX8_sees_28 (by decide) (fun hw5 => ?_) (fun hw5 => absurd hw5 (by decide))
  refine g_aload_n (v := ad 12 6) cx dX8_sees_44 rfl ?_
  refine b_get (v := .ref (ad 15 0)) cx fk_X8_63 dX8_sees_45 0 0 rfl rfl rfl ?_
  refine b_get (v := .int (U 2 0)) cx fk_X8_200 dX8_sees_48 21 0 rfl rfl rfl ?_
  refine g_bipush (v := 6) cx dX8_sees_51 (by decide) ?_
  refine g_icmp_lt cx 59 dX8_sees_53 (by decide) (fun hw6 => absurd hw6 (rf_ltMN hk (nl 6) (by omega) (by omega) (by omega))) (fun hw6 => ?_)
  refine g_bipush (v := (-3)) cx dX8_sees_56 (by decide) ?_
  exact hret _ _ _ _ dX8_sees_58 (rfl) ⟨rfl, rfl⟩
def rm_X8_sees_okN : Room := { frames := 1, cells := 0, slots := 0, locals := 22 }
set_option maxRecDepth 100000 in
set_option maxHeartbeats 4000000 in
theorem c_X8_sees_okN (V : VT) (ad : Nat → Nat → Nat) (X0 X1 X2 X3 X4 : S2) (Hs : Nat → S2) (L : Nat → Int32) (z : Nat) (b c d u lt sv : Int32) (A B : S2) (x s : Nat) (kp : Nat → Int32) (U Y : S2) (n o m k : Nat) (hC : okC X0 X3 X4 Hs z x s n o m k U) (l v : Int32) (q : Nat) (hl : l = nI q) (hq : q < 6) (h4 : 4 ≤ q) (hv : v = (-9)) (h3 : k < 6) : CI V yX8_sees cX8_sees 4 .int rm_X8_sees_okN [.ref (ad 12 6), .int l, .int v] ((List.flatten [wMain ad, wRing V (ad 0) X0, wRing V (ad 1) X1, wRing V (ad 2) X2, wTx V (ad 11) L (nI z) b c d u, wRd (ad 12 0) (ad 11 0) lt, wSd (ad 12 1) (ad 13 0) (ad 14 0) sv, wCopy V (ad 13) A, wCopy V (ad 14) B, wHi (ad 12 2) (ad 12 3) (nI x) (nI s), wRs V (ad 12 3) 6 (fun j_ => ad (5 + j_) 0), wRing V (ad 5) (Hs 0), wRing V (ad 6) (Hs 1), wRing V (ad 7) (Hs 2), wRing V (ad 8) (Hs 3), wRing V (ad 9) (Hs 4), wRing V (ad 10) (Hs 5), wRs V (ad 12 4) 2 (fun j_ => ad (3 + j_) 0), wRing V (ad 3) X3, wRing V (ad 4) X4, wKz V (ad 12 5) kp, wSight V (ad 15) U, wSusp V (ad 16) Y])) (fun r_ w_ => r_ = U 2 0 + 1 ∧ w_ = (List.flatten [wMain ad, wRing V (ad 0) X0, wRing V (ad 1) X1, wRing V (ad 2) X2, wTx V (ad 11) L (nI z) b c d u, wRd (ad 12 0) (ad 11 0) lt, wSd (ad 12 1) (ad 13 0) (ad 14 0) sv, wCopy V (ad 13) A, wCopy V (ad 14) B, wHi (ad 12 2) (ad 12 3) (nI x) (nI s), wRs V (ad 12 3) 6 (fun j_ => ad (5 + j_) 0), wRing V (ad 5) (Hs 0), wRing V (ad 6) (Hs 1), wRing V (ad 7) (Hs 2), wRing V (ad 8) (Hs 3), wRing V (ad 9) (Hs 4), wRing V (ad 10) (Hs 5), wRs V (ad 12 4) 2 (fun j_ => ad (3 + j_) 0), wRing V (ad 3) X3, wRing V (ad 4) X4, wKz V (ad 12 5) kp, wSight V (ad 15) (uAdd U k l v), wSusp V (ad 16) Y])) := by
  refine CI_intro (by decide) (Nat.le_of_ble_eq_true rfl) (fun K cx hret => ?_)
  show G V K 4 0 0 ((List.flatten [wMain ad, wRing V (ad 0) X0, wRing V (ad 1) X1, wRing V (ad 2) X2, wTx V (ad 11) L (nI z) b c d u, wRd (ad 12 0) (ad 11 0) lt, wSd (ad 12 1) (ad 13 0) (ad 14 0) sv, wCopy V (ad 13) A, wCopy V (ad 14) B, wHi (ad 12 2) (ad 12 3) (nI x) (nI s), wRs V (ad 12 3) 6 (fun j_ => ad (5 + j_) 0), wRing V (ad 5) (Hs 0), wRing V (ad 6) (Hs 1), wRing V (ad 7) (Hs 2), wRing V (ad 8) (Hs 3), wRing V (ad 9) (Hs 4), wRing V (ad 10) (Hs 5), wRs V (ad 12 4) 2 (fun j_ => ad (3 + j_) 0), wRing V (ad 3) X3, wRing V (ad 4) X4, wKz V (ad 12 5) kp, wSight V (ad 15) U, wSusp V (ad 16) Y])) 0 [(0, .ref (ad 12 6)), (1, .int l), (2, .int v)] []
  obtain ⟨hz, hx, hs, hn, hn6, hn1, ho, ho4, hm, hm7, hat, hbR, hbH, hbI, hk, hk6, hU⟩ := hC
  refine g_iload_n (v := l) cx dX8_sees_0 rfl ?_
  refine g_iconst (v := 4) cx dX8_sees_1 (by decide) ?_
  refine g_icmp_lt cx 15 dX8_sees_2 (by decide) (fun hw1 => absurd hw1 (rf_ltMN hl (nl 4) (by omega) (by omega) (by omega))) (fun hw1 => ?_)
  refine g_iload_n (v := v) cx dX8_sees_5 rfl ?_
  refine g_bipush (v := (-9)) cx dX8_sees_6 (by decide) ?_
  refine g_icmp_ne cx 15 dX8_sees_8 (by decide) (fun hw2 => absurd (hv) hw2) (fun hw2 => ?_)
  refine g_iconst (v := 1) cx dX8_sees_11 (by decide) ?_
  refine g_goto cx 16 dX8_sees_12 (by decide) ?_
  refine g_istore_n (lv' := [(0, .ref (ad 12 6)), (1, .int l), (2, .int v), (3, .int 1)]) cx dX8_sees_16 (by decide) rfl ?_
  refine g_iload_n (v := l) cx dX8_sees_17 rfl ?_
  refine g_if_lt cx 42 dX8_sees_18 (by decide) (fun hw3 => absurd hw3 (rf_ltMN hl (nl 0) (by omega) (by omega) (by omega))) (fun hw3 => ?_)
  refine g_iload_n (v := l) cx dX8_sees_21 rfl ?_
  refine g_bipush (v := 6) cx dX8_sees_22 (by decide) ?_
  refine g_icmp_ge cx 42 dX8_sees_24 (by decide) (fun hw4 => absurd hw4 (rf_geMN hl (nl 6) (by omega) (by omega) (by omega))) (fun hw4 => ?_)
  refine g_iload_n (v := 1) cx dX8_sees_27 rfl ?_
  refine g_if_ne cx 44 dX8_sees_28 (by decide) (fun hw5 => ?_) (fun hw5 => absurd hw5 (by decide))
  refine g_aload_n (v := ad 12 6) cx dX8_sees_44 rfl ?_
  refine b_get (v := .ref (ad 15 0)) cx fk_X8_63 dX8_sees_45 0 0 rfl rfl rfl ?_
  refine b_get (v := .int (U 2 0)) cx fk_X8_200 dX8_sees_48 21 0 rfl rfl rfl ?_
  refine g_bipush (v := 6) cx dX8_sees_51 (by decide) ?_
  refine g_icmp_lt cx 59 dX8_sees_53 (by decide) (fun hw6 => ?_) (fun hw6 => absurd (rf_ltMP hk (nl 6) (by omega) (by omega) (by omega)) hw6)
  refine g_aload_n (v := ad 12 6) cx dX8_sees_59 rfl ?_
  refine b_get (v := .ref (ad 15 0)) cx fk_X8_63 dX8_sees_60 0 0 rfl rfl rfl ?_
  refine g_iload_n (v := l) cx dX8_sees_63 rfl ?_
  refine g_iload_n (v := v) cx dX8_sees_64 rfl ?_
  refine b_callv (Ws' := [wMain ad, wRing V (ad 0) X0, wRing V (ad 1) X1, wRing V (ad 2) X2, wTx V (ad 11) L (nI z) b c d u, wRd (ad 12 0) (ad 11 0) lt, wSd (ad 12 1) (ad 13 0) (ad 14 0) sv, wCopy V (ad 13) A, wCopy V (ad 14) B, wHi (ad 12 2) (ad 12 3) (nI x) (nI s), wRs V (ad 12 3) 6 (fun j_ => ad (5 + j_) 0), wRing V (ad 5) (Hs 0), wRing V (ad 6) (Hs 1), wRing V (ad 7) (Hs 2), wRing V (ad 8) (Hs 3), wRing V (ad 9) (Hs 4), wRing V (ad 10) (Hs 5), wRs V (ad 12 4) 2 (fun j_ => ad (3 + j_) 0), wRing V (ad 3) X3, wRing V (ad 4) X4, wKz V (ad 12 5) kp, wSight V (ad 15) (uAdd U k l v), wSusp V (ad 16) Y]) (wcs := [wSight V (ad 15) U]) (wos := [wSight V (ad 15) (uAdd U k l v)]) (As := [.int l, .int v]) (rest := []) cx (c_X5_append V (ad 15) U l v k hk h3) ml_X8_201 dX8_sees_65 [21] rfl rfl (List.append_nil _) (List.append_nil _) [[ad 15 0, ad 15 1, ad 15 2]] rfl rfl rfl 0 0 5 rfl rfl rfl rfl rfl rfl (Nat.le_of_ble_eq_true rfl) ⟨Nat.le_of_ble_eq_true rfl, Nat.le_of_ble_eq_true rfl⟩ ⟨Nat.le_refl _, Nat.le_refl _⟩ ?_
  refine g_aload_n (v := ad 12 6) cx dX8_sees_68 rfl ?_
  refine b_get (v := .ref (ad 15 0)) cx fk_X8_63 dX8_sees_69 0 0 rfl rfl rfl ?_
  refine b_get (v := .int ((uAdd U k l v) 2 0)) cx fk_X8_200 dX8_sees_72 21 0 rfl rfl rfl ?_
  exact hret _ _ _ _ dX8_sees_75 (rfl) ⟨rfl, rfl⟩
def rm_X8_sees_fullV : Room := { frames := 0, cells := 0, slots := 0, locals := 0 }
set_option maxRecDepth 100000 in
set_option maxHeartbeats 4000000 in
theorem c_X8_sees_fullV (V : VT) (ad : Nat → Nat → Nat) (X0 X1 X2 X3 X4 : S2) (Hs : Nat → S2) (L : Nat → Int32) (z : Nat) (b c d u lt sv : Int32) (A B : S2) (x s : Nat) (kp : Nat → Int32) (U Y : S2) (n o m k : Nat) (hC : okC X0 X3 X4 Hs z x s n o m k U) (l v : Int32) (q : Nat) (hl : l = nI q) (hq : q < 6) (hv1 : ¬ v < 0) (hv2 : v ≤ 255) (h3 : k = 6) : CI V yX8_sees cX8_sees 4 .int rm_X8_sees_fullV [.ref (ad 12 6), .int l, .int v] ((List.flatten [wMain ad, wRing V (ad 0) X0, wRing V (ad 1) X1, wRing V (ad 2) X2, wTx V (ad 11) L (nI z) b c d u, wRd (ad 12 0) (ad 11 0) lt, wSd (ad 12 1) (ad 13 0) (ad 14 0) sv, wCopy V (ad 13) A, wCopy V (ad 14) B, wHi (ad 12 2) (ad 12 3) (nI x) (nI s), wRs V (ad 12 3) 6 (fun j_ => ad (5 + j_) 0), wRing V (ad 5) (Hs 0), wRing V (ad 6) (Hs 1), wRing V (ad 7) (Hs 2), wRing V (ad 8) (Hs 3), wRing V (ad 9) (Hs 4), wRing V (ad 10) (Hs 5), wRs V (ad 12 4) 2 (fun j_ => ad (3 + j_) 0), wRing V (ad 3) X3, wRing V (ad 4) X4, wKz V (ad 12 5) kp, wSight V (ad 15) U, wSusp V (ad 16) Y])) (fun r_ w_ => r_ = (-3) ∧ w_ = (List.flatten [wMain ad, wRing V (ad 0) X0, wRing V (ad 1) X1, wRing V (ad 2) X2, wTx V (ad 11) L (nI z) b c d u, wRd (ad 12 0) (ad 11 0) lt, wSd (ad 12 1) (ad 13 0) (ad 14 0) sv, wCopy V (ad 13) A, wCopy V (ad 14) B, wHi (ad 12 2) (ad 12 3) (nI x) (nI s), wRs V (ad 12 3) 6 (fun j_ => ad (5 + j_) 0), wRing V (ad 5) (Hs 0), wRing V (ad 6) (Hs 1), wRing V (ad 7) (Hs 2), wRing V (ad 8) (Hs 3), wRing V (ad 9) (Hs 4), wRing V (ad 10) (Hs 5), wRs V (ad 12 4) 2 (fun j_ => ad (3 + j_) 0), wRing V (ad 3) X3, wRing V (ad 4) X4, wKz V (ad 12 5) kp, wSight V (ad 15) U, wSusp V (ad 16) Y])) := by
  refine CI_intro (by decide) (Nat.le_of_ble_eq_true rfl) (fun K cx hret => ?_)
  show G V K 4 0 0 ((List.flatten [wMain ad, wRing V (ad 0) X0, wRing V (ad 1) X1, wRing V (ad 2) X2, wTx V (ad 11) L (nI z) b c d u, wRd (ad 12 0) (ad 11 0) lt, wSd (ad 12 1) (ad 13 0) (ad 14 0) sv, wCopy V (ad 13) A, wCopy V (ad 14) B, wHi (ad 12 2) (ad 12 3) (nI x) (nI s), wRs V (ad 12 3) 6 (fun j_ => ad (5 + j_) 0), wRing V (ad 5) (Hs 0), wRing V (ad 6) (Hs 1), wRing V (ad 7) (Hs 2), wRing V (ad 8) (Hs 3), wRing V (ad 9) (Hs 4), wRing V (ad 10) (Hs 5), wRs V (ad 12 4) 2 (fun j_ => ad (3 + j_) 0), wRing V (ad 3) X3, wRing V (ad 4) X4, wKz V (ad 12 5) kp, wSight V (ad 15) U, wSusp V (ad 16) Y])) 0 [(0, .ref (ad 12 6)), (1, .int l), (2, .int v)] []
  obtain ⟨hz, hx, hs, hn, hn6, hn1, ho, ho4, hm, hm7, hat, hbR, hbH, hbI, hk, hk6, hU⟩ := hC
  refine g_iload_n (v := l) cx dX8_sees_0 rfl ?_
  refine g_iconst (v := 4) cx dX8_sees_1 (by decide) ?_
  refine g_icmp_lt cx 15 dX8_sees_2 (by decide) (fun hw1 => ?_) (fun hw1 => ?_)
  · have hw1 := rf_ltP hl (nl 4) (by omega) (by omega) hw1
    refine g_iconst (v := 0) cx dX8_sees_15 (by decide) ?_
    refine g_istore_n (lv' := [(0, .ref (ad 12 6)), (1, .int l), (2, .int v), (3, .int 0)]) cx dX8_sees_16 (by decide) rfl ?_
    refine g_iload_n (v := l) cx dX8_sees_17 rfl ?_
    refine g_if_lt cx 42 dX8_sees_18 (by decide) (fun hw2 => absurd hw2 (rf_ltMN hl (nl 0) (by omega) (by omega) (by omega))) (fun hw2 => ?_)
    refine g_iload_n (v := l) cx dX8_sees_21 rfl ?_
    refine g_bipush (v := 6) cx dX8_sees_22 (by decide) ?_
    refine g_icmp_ge cx 42 dX8_sees_24 (by decide) (fun hw3 => absurd hw3 (rf_geMN hl (nl 6) (by omega) (by omega) (by omega))) (fun hw3 => ?_)
    refine g_iload_n (v := 0) cx dX8_sees_27 rfl ?_
    refine g_if_ne cx 44 dX8_sees_28 (by decide) (fun hw4 => absurd (by decide) hw4) (fun hw4 => ?_)
    refine g_iload_n (v := v) cx dX8_sees_31 rfl ?_
    refine g_if_lt cx 42 dX8_sees_32 (by decide) (fun hw5 => absurd hw5 (hv1)) (fun hw5 => ?_)
    refine g_iload_n (v := v) cx dX8_sees_35 rfl ?_
    refine g_sipush (v := 255) cx dX8_sees_36 (by decide) ?_
    refine g_icmp_le cx 44 dX8_sees_39 (by decide) (fun hw6 => ?_) (fun hw6 => absurd (hv2) hw6)
    refine g_aload_n (v := ad 12 6) cx dX8_sees_44 rfl ?_
    refine b_get (v := .ref (ad 15 0)) cx fk_X8_63 dX8_sees_45 0 0 rfl rfl rfl ?_
    refine b_get (v := .int (U 2 0)) cx fk_X8_200 dX8_sees_48 21 0 rfl rfl rfl ?_
    refine g_bipush (v := 6) cx dX8_sees_51 (by decide) ?_
    refine g_icmp_lt cx 59 dX8_sees_53 (by decide) (fun hw7 => absurd hw7 (rf_ltMN hk (nl 6) (by omega) (by omega) (by omega))) (fun hw7 => ?_)
    refine g_bipush (v := (-3)) cx dX8_sees_56 (by decide) ?_
    exact hret _ _ _ _ dX8_sees_58 (rfl) ⟨rfl, rfl⟩
  · have hw1 := rf_ltN hl (nl 4) (by omega) (by omega) hw1
    refine g_iload_n (v := v) cx dX8_sees_5 rfl ?_
    refine g_bipush (v := (-9)) cx dX8_sees_6 (by decide) ?_
    refine g_icmp_ne cx 15 dX8_sees_8 (by decide) (fun hw8 => ?_) (fun hw8 => absurd hw8 (fun e => hv1 (by rw [e]; decide)))
    refine g_iconst (v := 0) cx dX8_sees_15 (by decide) ?_
    refine g_istore_n (lv' := [(0, .ref (ad 12 6)), (1, .int l), (2, .int v), (3, .int 0)]) cx dX8_sees_16 (by decide) rfl ?_
    refine g_iload_n (v := l) cx dX8_sees_17 rfl ?_
    refine g_if_lt cx 42 dX8_sees_18 (by decide) (fun hw9 => absurd hw9 (rf_ltMN hl (nl 0) (by omega) (by omega) (by omega))) (fun hw9 => ?_)
    refine g_iload_n (v := l) cx dX8_sees_21 rfl ?_
    refine g_bipush (v := 6) cx dX8_sees_22 (by decide) ?_
    refine g_icmp_ge cx 42 dX8_sees_24 (by decide) (fun hw10 => absurd hw10 (rf_geMN hl (nl 6) (by omega) (by omega) (by omega))) (fun hw10 => ?_)
    refine g_iload_n (v := 0) cx dX8_sees_27 rfl ?_
    refine g_if_ne cx 44 dX8_sees_28 (by decide) (fun hw11 => absurd (by decide) hw11) (fun hw11 => ?_)
    refine g_iload_n (v := v) cx dX8_sees_31 rfl ?_
    refine g_if_lt cx 42 dX8_sees_32 (by decide) (fun hw12 => absurd hw12 (hv1)) (fun hw12 => ?_)
    refine g_iload_n (v := v) cx dX8_sees_35 rfl ?_
    refine g_sipush (v := 255) cx dX8_sees_36 (by decide) ?_
    refine g_icmp_le cx 44 dX8_sees_39 (by decide) (fun hw13 => ?_) (fun hw13 => absurd (hv2) hw13)
    refine g_aload_n (v := ad 12 6) cx dX8_sees_44 rfl ?_
    refine b_get (v := .ref (ad 15 0)) cx fk_X8_63 dX8_sees_45 0 0 rfl rfl rfl ?_
    refine b_get (v := .int (U 2 0)) cx fk_X8_200 dX8_sees_48 21 0 rfl rfl rfl ?_
    refine g_bipush (v := 6) cx dX8_sees_51 (by decide) ?_
    refine g_icmp_lt cx 59 dX8_sees_53 (by decide) (fun hw14 => absurd hw14 (rf_ltMN hk (nl 6) (by omega) (by omega) (by omega))) (fun hw14 => ?_)
    refine g_bipush (v := (-3)) cx dX8_sees_56 (by decide) ?_
    exact hret _ _ _ _ dX8_sees_58 (rfl) ⟨rfl, rfl⟩
def rm_X8_sees_okV : Room := { frames := 1, cells := 0, slots := 0, locals := 22 }
set_option maxRecDepth 100000 in
set_option maxHeartbeats 4000000 in
theorem c_X8_sees_okV (V : VT) (ad : Nat → Nat → Nat) (X0 X1 X2 X3 X4 : S2) (Hs : Nat → S2) (L : Nat → Int32) (z : Nat) (b c d u lt sv : Int32) (A B : S2) (x s : Nat) (kp : Nat → Int32) (U Y : S2) (n o m k : Nat) (hC : okC X0 X3 X4 Hs z x s n o m k U) (l v : Int32) (q : Nat) (hl : l = nI q) (hq : q < 6) (hv1 : ¬ v < 0) (hv2 : v ≤ 255) (h3 : k < 6) : CI V yX8_sees cX8_sees 4 .int rm_X8_sees_okV [.ref (ad 12 6), .int l, .int v] ((List.flatten [wMain ad, wRing V (ad 0) X0, wRing V (ad 1) X1, wRing V (ad 2) X2, wTx V (ad 11) L (nI z) b c d u, wRd (ad 12 0) (ad 11 0) lt, wSd (ad 12 1) (ad 13 0) (ad 14 0) sv, wCopy V (ad 13) A, wCopy V (ad 14) B, wHi (ad 12 2) (ad 12 3) (nI x) (nI s), wRs V (ad 12 3) 6 (fun j_ => ad (5 + j_) 0), wRing V (ad 5) (Hs 0), wRing V (ad 6) (Hs 1), wRing V (ad 7) (Hs 2), wRing V (ad 8) (Hs 3), wRing V (ad 9) (Hs 4), wRing V (ad 10) (Hs 5), wRs V (ad 12 4) 2 (fun j_ => ad (3 + j_) 0), wRing V (ad 3) X3, wRing V (ad 4) X4, wKz V (ad 12 5) kp, wSight V (ad 15) U, wSusp V (ad 16) Y])) (fun r_ w_ => r_ = U 2 0 + 1 ∧ w_ = (List.flatten [wMain ad, wRing V (ad 0) X0, wRing V (ad 1) X1, wRing V (ad 2) X2, wTx V (ad 11) L (nI z) b c d u, wRd (ad 12 0) (ad 11 0) lt, wSd (ad 12 1) (ad 13 0) (ad 14 0) sv, wCopy V (ad 13) A, wCopy V (ad 14) B, wHi (ad 12 2) (ad 12 3) (nI x) (nI s), wRs V (ad 12 3) 6 (fun j_ => ad (5 + j_) 0), wRing V (ad 5) (Hs 0), wRing V (ad 6) (Hs 1), wRing V (ad 7) (Hs 2), wRing V (ad 8) (Hs 3), wRing V (ad 9) (Hs 4), wRing V (ad 10) (Hs 5), wRs V (ad 12 4) 2 (fun j_ => ad (3 + j_) 0), wRing V (ad 3) X3, wRing V (ad 4) X4, wKz V (ad 12 5) kp, wSight V (ad 15) (uAdd U k l v), wSusp V (ad 16) Y])) := by
  refine CI_intro (by decide) (Nat.le_of_ble_eq_true rfl) (fun K cx hret => ?_)
  show G V K 4 0 0 ((List.flatten [wMain ad, wRing V (ad 0) X0, wRing V (ad 1) X1, wRing V (ad 2) X2, wTx V (ad 11) L (nI z) b c d u, wRd (ad 12 0) (ad 11 0) lt, wSd (ad 12 1) (ad 13 0) (ad 14 0) sv, wCopy V (ad 13) A, wCopy V (ad 14) B, wHi (ad 12 2) (ad 12 3) (nI x) (nI s), wRs V (ad 12 3) 6 (fun j_ => ad (5 + j_) 0), wRing V (ad 5) (Hs 0), wRing V (ad 6) (Hs 1), wRing V (ad 7) (Hs 2), wRing V (ad 8) (Hs 3), wRing V (ad 9) (Hs 4), wRing V (ad 10) (Hs 5), wRs V (ad 12 4) 2 (fun j_ => ad (3 + j_) 0), wRing V (ad 3) X3, wRing V (ad 4) X4, wKz V (ad 12 5) kp, wSight V (ad 15) U, wSusp V (ad 16) Y])) 0 [(0, .ref (ad 12 6)), (1, .int l), (2, .int v)] []
  obtain ⟨hz, hx, hs, hn, hn6, hn1, ho, ho4, hm, hm7, hat, hbR, hbH, hbI, hk, hk6, hU⟩ := hC
  refine g_iload_n (v := l) cx dX8_sees_0 rfl ?_
  refine g_iconst (v := 4) cx dX8_sees_1 (by decide) ?_
  refine g_icmp_lt cx 15 dX8_sees_2 (by decide) (fun hw1 => ?_) (fun hw1 => ?_)
  · have hw1 := rf_ltP hl (nl 4) (by omega) (by omega) hw1
    refine g_iconst (v := 0) cx dX8_sees_15 (by decide) ?_
    refine g_istore_n (lv' := [(0, .ref (ad 12 6)), (1, .int l), (2, .int v), (3, .int 0)]) cx dX8_sees_16 (by decide) rfl ?_
    refine g_iload_n (v := l) cx dX8_sees_17 rfl ?_
    refine g_if_lt cx 42 dX8_sees_18 (by decide) (fun hw2 => absurd hw2 (rf_ltMN hl (nl 0) (by omega) (by omega) (by omega))) (fun hw2 => ?_)
    refine g_iload_n (v := l) cx dX8_sees_21 rfl ?_
    refine g_bipush (v := 6) cx dX8_sees_22 (by decide) ?_
    refine g_icmp_ge cx 42 dX8_sees_24 (by decide) (fun hw3 => absurd hw3 (rf_geMN hl (nl 6) (by omega) (by omega) (by omega))) (fun hw3 => ?_)
    refine g_iload_n (v := 0) cx dX8_sees_27 rfl ?_
    refine g_if_ne cx 44 dX8_sees_28 (by decide) (fun hw4 => absurd (by decide) hw4) (fun hw4 => ?_)
    refine g_iload_n (v := v) cx dX8_sees_31 rfl ?_
    refine g_if_lt cx 42 dX8_sees_32 (by decide) (fun hw5 => absurd hw5 (hv1)) (fun hw5 => ?_)
    refine g_iload_n (v := v) cx dX8_sees_35 rfl ?_
    refine g_sipush (v := 255) cx dX8_sees_36 (by decide) ?_
    refine g_icmp_le cx 44 dX8_sees_39 (by decide) (fun hw6 => ?_) (fun hw6 => absurd (hv2) hw6)
    refine g_aload_n (v := ad 12 6) cx dX8_sees_44 rfl ?_
    refine b_get (v := .ref (ad 15 0)) cx fk_X8_63 dX8_sees_45 0 0 rfl rfl rfl ?_
    refine b_get (v := .int (U 2 0)) cx fk_X8_200 dX8_sees_48 21 0 rfl rfl rfl ?_
    refine g_bipush (v := 6) cx dX8_sees_51 (by decide) ?_
    refine g_icmp_lt cx 59 dX8_sees_53 (by decide) (fun hw7 => ?_) (fun hw7 => absurd (rf_ltMP hk (nl 6) (by omega) (by omega) (by omega)) hw7)
    refine g_aload_n (v := ad 12 6) cx dX8_sees_59 rfl ?_
    refine b_get (v := .ref (ad 15 0)) cx fk_X8_63 dX8_sees_60 0 0 rfl rfl rfl ?_
    refine g_iload_n (v := l) cx dX8_sees_63 rfl ?_
    refine g_iload_n (v := v) cx dX8_sees_64 rfl ?_
    refine b_callv (Ws' := [wMain ad, wRing V (ad 0) X0, wRing V (ad 1) X1, wRing V (ad 2) X2, wTx V (ad 11) L (nI z) b c d u, wRd (ad 12 0) (ad 11 0) lt, wSd (ad 12 1) (ad 13 0) (ad 14 0) sv, wCopy V (ad 13) A, wCopy V (ad 14) B, wHi (ad 12 2) (ad 12 3) (nI x) (nI s), wRs V (ad 12 3) 6 (fun j_ => ad (5 + j_) 0), wRing V (ad 5) (Hs 0), wRing V (ad 6) (Hs 1), wRing V (ad 7) (Hs 2), wRing V (ad 8) (Hs 3), wRing V (ad 9) (Hs 4), wRing V (ad 10) (Hs 5), wRs V (ad 12 4) 2 (fun j_ => ad (3 + j_) 0), wRing V (ad 3) X3, wRing V (ad 4) X4, wKz V (ad 12 5) kp, wSight V (ad 15) (uAdd U k l v), wSusp V (ad 16) Y]) (wcs := [wSight V (ad 15) U]) (wos := [wSight V (ad 15) (uAdd U k l v)]) (As := [.int l, .int v]) (rest := []) cx (c_X5_append V (ad 15) U l v k hk h3) ml_X8_201 dX8_sees_65 [21] rfl rfl (List.append_nil _) (List.append_nil _) [[ad 15 0, ad 15 1, ad 15 2]] rfl rfl rfl 0 0 5 rfl rfl rfl rfl rfl rfl (Nat.le_of_ble_eq_true rfl) ⟨Nat.le_of_ble_eq_true rfl, Nat.le_of_ble_eq_true rfl⟩ ⟨Nat.le_refl _, Nat.le_refl _⟩ ?_
    refine g_aload_n (v := ad 12 6) cx dX8_sees_68 rfl ?_
    refine b_get (v := .ref (ad 15 0)) cx fk_X8_63 dX8_sees_69 0 0 rfl rfl rfl ?_
    refine b_get (v := .int ((uAdd U k l v) 2 0)) cx fk_X8_200 dX8_sees_72 21 0 rfl rfl rfl ?_
    exact hret _ _ _ _ dX8_sees_75 (rfl) ⟨rfl, rfl⟩
  · have hw1 := rf_ltN hl (nl 4) (by omega) (by omega) hw1
    refine g_iload_n (v := v) cx dX8_sees_5 rfl ?_
    refine g_bipush (v := (-9)) cx dX8_sees_6 (by decide) ?_
    refine g_icmp_ne cx 15 dX8_sees_8 (by decide) (fun hw8 => ?_) (fun hw8 => absurd hw8 (fun e => hv1 (by rw [e]; decide)))
    refine g_iconst (v := 0) cx dX8_sees_15 (by decide) ?_
    refine g_istore_n (lv' := [(0, .ref (ad 12 6)), (1, .int l), (2, .int v), (3, .int 0)]) cx dX8_sees_16 (by decide) rfl ?_
    refine g_iload_n (v := l) cx dX8_sees_17 rfl ?_
    refine g_if_lt cx 42 dX8_sees_18 (by decide) (fun hw9 => absurd hw9 (rf_ltMN hl (nl 0) (by omega) (by omega) (by omega))) (fun hw9 => ?_)
    refine g_iload_n (v := l) cx dX8_sees_21 rfl ?_
    refine g_bipush (v := 6) cx dX8_sees_22 (by decide) ?_
    refine g_icmp_ge cx 42 dX8_sees_24 (by decide) (fun hw10 => absurd hw10 (rf_geMN hl (nl 6) (by omega) (by omega) (by omega))) (fun hw10 => ?_)
    refine g_iload_n (v := 0) cx dX8_sees_27 rfl ?_
    refine g_if_ne cx 44 dX8_sees_28 (by decide) (fun hw11 => absurd (by decide) hw11) (fun hw11 => ?_)
    refine g_iload_n (v := v) cx dX8_sees_31 rfl ?_
    refine g_if_lt cx 42 dX8_sees_32 (by decide) (fun hw12 => absurd hw12 (hv1)) (fun hw12 => ?_)
    refine g_iload_n (v := v) cx dX8_sees_35 rfl ?_
    refine g_sipush (v := 255) cx dX8_sees_36 (by decide) ?_
    refine g_icmp_le cx 44 dX8_sees_39 (by decide) (fun hw13 => ?_) (fun hw13 => absurd (hv2) hw13)
    refine g_aload_n (v := ad 12 6) cx dX8_sees_44 rfl ?_
    refine b_get (v := .ref (ad 15 0)) cx fk_X8_63 dX8_sees_45 0 0 rfl rfl rfl ?_
    refine b_get (v := .int (U 2 0)) cx fk_X8_200 dX8_sees_48 21 0 rfl rfl rfl ?_
    refine g_bipush (v := 6) cx dX8_sees_51 (by decide) ?_
    refine g_icmp_lt cx 59 dX8_sees_53 (by decide) (fun hw14 => ?_) (fun hw14 => absurd (rf_ltMP hk (nl 6) (by omega) (by omega) (by omega)) hw14)
    refine g_aload_n (v := ad 12 6) cx dX8_sees_59 rfl ?_
    refine b_get (v := .ref (ad 15 0)) cx fk_X8_63 dX8_sees_60 0 0 rfl rfl rfl ?_
    refine g_iload_n (v := l) cx dX8_sees_63 rfl ?_
    refine g_iload_n (v := v) cx dX8_sees_64 rfl ?_
    refine b_callv (Ws' := [wMain ad, wRing V (ad 0) X0, wRing V (ad 1) X1, wRing V (ad 2) X2, wTx V (ad 11) L (nI z) b c d u, wRd (ad 12 0) (ad 11 0) lt, wSd (ad 12 1) (ad 13 0) (ad 14 0) sv, wCopy V (ad 13) A, wCopy V (ad 14) B, wHi (ad 12 2) (ad 12 3) (nI x) (nI s), wRs V (ad 12 3) 6 (fun j_ => ad (5 + j_) 0), wRing V (ad 5) (Hs 0), wRing V (ad 6) (Hs 1), wRing V (ad 7) (Hs 2), wRing V (ad 8) (Hs 3), wRing V (ad 9) (Hs 4), wRing V (ad 10) (Hs 5), wRs V (ad 12 4) 2 (fun j_ => ad (3 + j_) 0), wRing V (ad 3) X3, wRing V (ad 4) X4, wKz V (ad 12 5) kp, wSight V (ad 15) (uAdd U k l v), wSusp V (ad 16) Y]) (wcs := [wSight V (ad 15) U]) (wos := [wSight V (ad 15) (uAdd U k l v)]) (As := [.int l, .int v]) (rest := []) cx (c_X5_append V (ad 15) U l v k hk h3) ml_X8_201 dX8_sees_65 [21] rfl rfl (List.append_nil _) (List.append_nil _) [[ad 15 0, ad 15 1, ad 15 2]] rfl rfl rfl 0 0 5 rfl rfl rfl rfl rfl rfl (Nat.le_of_ble_eq_true rfl) ⟨Nat.le_of_ble_eq_true rfl, Nat.le_of_ble_eq_true rfl⟩ ⟨Nat.le_refl _, Nat.le_refl _⟩ ?_
    refine g_aload_n (v := ad 12 6) cx dX8_sees_68 rfl ?_
    refine b_get (v := .ref (ad 15 0)) cx fk_X8_63 dX8_sees_69 0 0 rfl rfl rfl ?_
    refine b_get (v := .int ((uAdd U k l v) 2 0)) cx fk_X8_200 dX8_sees_72 21 0 rfl rfl rfl ?_
    exact hret _ _ _ _ dX8_sees_75 (rfl) ⟨rfl, rfl⟩
def rm_X8_count_bad : Room := { frames := 0, cells := 0, slots := 0, locals := 0 }
set_option maxRecDepth 100000 in
set_option maxHeartbeats 4000000 in
theorem c_X8_count_bad (V : VT) (ad : Nat → Nat → Nat) (X0 X1 X2 X3 X4 : S2) (Hs : Nat → S2) (L : Nat → Int32) (z : Nat) (b c d u lt sv : Int32) (A B : S2) (x s : Nat) (kp : Nat → Int32) (U Y : S2) (n o m k : Nat) (hC : okC X0 X3 X4 Hs z x s n o m k U) (l : Int32) (hb : l.toInt < 0 ∨ 12 < l.toInt) : CI V yX8_count cX8_count 2 .int rm_X8_count_bad [.ref (ad 12 6), .int l] ((List.flatten [wMain ad, wRing V (ad 0) X0, wRing V (ad 1) X1, wRing V (ad 2) X2, wTx V (ad 11) L (nI z) b c d u, wRd (ad 12 0) (ad 11 0) lt, wSd (ad 12 1) (ad 13 0) (ad 14 0) sv, wCopy V (ad 13) A, wCopy V (ad 14) B, wHi (ad 12 2) (ad 12 3) (nI x) (nI s), wRs V (ad 12 3) 6 (fun j_ => ad (5 + j_) 0), wRing V (ad 5) (Hs 0), wRing V (ad 6) (Hs 1), wRing V (ad 7) (Hs 2), wRing V (ad 8) (Hs 3), wRing V (ad 9) (Hs 4), wRing V (ad 10) (Hs 5), wRs V (ad 12 4) 2 (fun j_ => ad (3 + j_) 0), wRing V (ad 3) X3, wRing V (ad 4) X4, wKz V (ad 12 5) kp, wSight V (ad 15) U, wSusp V (ad 16) Y])) (fun r_ w_ => r_ = (-1) ∧ w_ = (List.flatten [wMain ad, wRing V (ad 0) X0, wRing V (ad 1) X1, wRing V (ad 2) X2, wTx V (ad 11) L (nI z) b c d u, wRd (ad 12 0) (ad 11 0) lt, wSd (ad 12 1) (ad 13 0) (ad 14 0) sv, wCopy V (ad 13) A, wCopy V (ad 14) B, wHi (ad 12 2) (ad 12 3) (nI x) (nI s), wRs V (ad 12 3) 6 (fun j_ => ad (5 + j_) 0), wRing V (ad 5) (Hs 0), wRing V (ad 6) (Hs 1), wRing V (ad 7) (Hs 2), wRing V (ad 8) (Hs 3), wRing V (ad 9) (Hs 4), wRing V (ad 10) (Hs 5), wRs V (ad 12 4) 2 (fun j_ => ad (3 + j_) 0), wRing V (ad 3) X3, wRing V (ad 4) X4, wKz V (ad 12 5) kp, wSight V (ad 15) U, wSusp V (ad 16) Y])) := by
  refine CI_intro (by decide) (Nat.le_of_ble_eq_true rfl) (fun K cx hret => ?_)
  show G V K 2 0 0 ((List.flatten [wMain ad, wRing V (ad 0) X0, wRing V (ad 1) X1, wRing V (ad 2) X2, wTx V (ad 11) L (nI z) b c d u, wRd (ad 12 0) (ad 11 0) lt, wSd (ad 12 1) (ad 13 0) (ad 14 0) sv, wCopy V (ad 13) A, wCopy V (ad 14) B, wHi (ad 12 2) (ad 12 3) (nI x) (nI s), wRs V (ad 12 3) 6 (fun j_ => ad (5 + j_) 0), wRing V (ad 5) (Hs 0), wRing V (ad 6) (Hs 1), wRing V (ad 7) (Hs 2), wRing V (ad 8) (Hs 3), wRing V (ad 9) (Hs 4), wRing V (ad 10) (Hs 5), wRs V (ad 12 4) 2 (fun j_ => ad (3 + j_) 0), wRing V (ad 3) X3, wRing V (ad 4) X4, wKz V (ad 12 5) kp, wSight V (ad 15) U, wSusp V (ad 16) Y])) 0 [(0, .ref (ad 12 6)), (1, .int l)] []
  obtain ⟨hz, hx, hs, hn, hn6, hn1, ho, ho4, hm, hm7, hat, hbR, hbH, hbI, hk, hk6, hU⟩ := hC
  refine g_iload_n (v := l) cx dX8_count_0 rfl ?_
  refine g_tableOut cx 188 dX8_count_1 (hb) (by decide) ?_
  refine g_iconst (v := (-1)) cx dX8_count_188 (by decide) ?_
  exact hret _ _ _ _ dX8_count_189 (rfl) ⟨rfl, rfl⟩
def rm_X8_count_c0 : Room := { frames := 0, cells := 0, slots := 0, locals := 0 }
set_option maxRecDepth 100000 in
set_option maxHeartbeats 4000000 in
theorem c_X8_count_c0 (V : VT) (ad : Nat → Nat → Nat) (X0 X1 X2 X3 X4 : S2) (Hs : Nat → S2) (L : Nat → Int32) (z : Nat) (b c d u lt sv : Int32) (A B : S2) (x s : Nat) (kp : Nat → Int32) (U Y : S2) (n o m k : Nat) (hC : okC X0 X3 X4 Hs z x s n o m k U) (l : Int32) (hl : l = 0) : CI V yX8_count cX8_count 2 .int rm_X8_count_c0 [.ref (ad 12 6), .int l] ((List.flatten [wMain ad, wRing V (ad 0) X0, wRing V (ad 1) X1, wRing V (ad 2) X2, wTx V (ad 11) L (nI z) b c d u, wRd (ad 12 0) (ad 11 0) lt, wSd (ad 12 1) (ad 13 0) (ad 14 0) sv, wCopy V (ad 13) A, wCopy V (ad 14) B, wHi (ad 12 2) (ad 12 3) (nI x) (nI s), wRs V (ad 12 3) 6 (fun j_ => ad (5 + j_) 0), wRing V (ad 5) (Hs 0), wRing V (ad 6) (Hs 1), wRing V (ad 7) (Hs 2), wRing V (ad 8) (Hs 3), wRing V (ad 9) (Hs 4), wRing V (ad 10) (Hs 5), wRs V (ad 12 4) 2 (fun j_ => ad (3 + j_) 0), wRing V (ad 3) X3, wRing V (ad 4) X4, wKz V (ad 12 5) kp, wSight V (ad 15) U, wSusp V (ad 16) Y])) (fun r_ w_ => r_ = X0 5 0 ∧ w_ = (List.flatten [wMain ad, wRing V (ad 0) X0, wRing V (ad 1) X1, wRing V (ad 2) X2, wTx V (ad 11) L (nI z) b c d u, wRd (ad 12 0) (ad 11 0) lt, wSd (ad 12 1) (ad 13 0) (ad 14 0) sv, wCopy V (ad 13) A, wCopy V (ad 14) B, wHi (ad 12 2) (ad 12 3) (nI x) (nI s), wRs V (ad 12 3) 6 (fun j_ => ad (5 + j_) 0), wRing V (ad 5) (Hs 0), wRing V (ad 6) (Hs 1), wRing V (ad 7) (Hs 2), wRing V (ad 8) (Hs 3), wRing V (ad 9) (Hs 4), wRing V (ad 10) (Hs 5), wRs V (ad 12 4) 2 (fun j_ => ad (3 + j_) 0), wRing V (ad 3) X3, wRing V (ad 4) X4, wKz V (ad 12 5) kp, wSight V (ad 15) U, wSusp V (ad 16) Y])) := by
  refine CI_intro (by decide) (Nat.le_of_ble_eq_true rfl) (fun K cx hret => ?_)
  show G V K 2 0 0 ((List.flatten [wMain ad, wRing V (ad 0) X0, wRing V (ad 1) X1, wRing V (ad 2) X2, wTx V (ad 11) L (nI z) b c d u, wRd (ad 12 0) (ad 11 0) lt, wSd (ad 12 1) (ad 13 0) (ad 14 0) sv, wCopy V (ad 13) A, wCopy V (ad 14) B, wHi (ad 12 2) (ad 12 3) (nI x) (nI s), wRs V (ad 12 3) 6 (fun j_ => ad (5 + j_) 0), wRing V (ad 5) (Hs 0), wRing V (ad 6) (Hs 1), wRing V (ad 7) (Hs 2), wRing V (ad 8) (Hs 3), wRing V (ad 9) (Hs 4), wRing V (ad 10) (Hs 5), wRs V (ad 12 4) 2 (fun j_ => ad (3 + j_) 0), wRing V (ad 3) X3, wRing V (ad 4) X4, wKz V (ad 12 5) kp, wSight V (ad 15) U, wSusp V (ad 16) Y])) 0 [(0, .ref (ad 12 6)), (1, .int l)] []
  obtain ⟨hz, hx, hs, hn, hn6, hn1, ho, ho4, hm, hm7, hat, hbR, hbH, hbI, hk, hk6, hU⟩ := hC
  refine g_iload_n (v := l) cx dX8_count_0 rfl ?_
  refine g_tableIn cx 68 dX8_count_1 (by rw [hl]; decide) (by rw [hl]; decide) (by rw [hl]; rfl) (by decide) ?_
  refine g_aload_n (v := ad 12 6) cx dX8_count_68 rfl ?_
  refine b_get (v := .ref (ad 0 0)) cx fk_X8_10 dX8_count_69 0 0 rfl rfl rfl ?_
  refine b_get (v := .int (X0 5 0)) cx fk_X8_92 dX8_count_72 1 0 rfl rfl rfl ?_
  exact hret _ _ _ _ dX8_count_75 (rfl) ⟨rfl, rfl⟩
def rm_X8_count_c1 : Room := { frames := 1, cells := 0, slots := 0, locals := 20 }
set_option maxRecDepth 100000 in
set_option maxHeartbeats 4000000 in
theorem c_X8_count_c1 (V : VT) (ad : Nat → Nat → Nat) (X0 X1 X2 X3 X4 : S2) (Hs : Nat → S2) (L : Nat → Int32) (z : Nat) (b c d u lt sv : Int32) (A B : S2) (x s : Nat) (kp : Nat → Int32) (U Y : S2) (n o m k : Nat) (hC : okC X0 X3 X4 Hs z x s n o m k U) (l : Int32) (hl : l = 1) : CI V yX8_count cX8_count 2 .int rm_X8_count_c1 [.ref (ad 12 6), .int l] ((List.flatten [wMain ad, wRing V (ad 0) X0, wRing V (ad 1) X1, wRing V (ad 2) X2, wTx V (ad 11) L (nI z) b c d u, wRd (ad 12 0) (ad 11 0) lt, wSd (ad 12 1) (ad 13 0) (ad 14 0) sv, wCopy V (ad 13) A, wCopy V (ad 14) B, wHi (ad 12 2) (ad 12 3) (nI x) (nI s), wRs V (ad 12 3) 6 (fun j_ => ad (5 + j_) 0), wRing V (ad 5) (Hs 0), wRing V (ad 6) (Hs 1), wRing V (ad 7) (Hs 2), wRing V (ad 8) (Hs 3), wRing V (ad 9) (Hs 4), wRing V (ad 10) (Hs 5), wRs V (ad 12 4) 2 (fun j_ => ad (3 + j_) 0), wRing V (ad 3) X3, wRing V (ad 4) X4, wKz V (ad 12 5) kp, wSight V (ad 15) U, wSusp V (ad 16) Y])) (fun r_ w_ => r_ = rLinks X0 ∧ w_ = (List.flatten [wMain ad, wRing V (ad 0) X0, wRing V (ad 1) X1, wRing V (ad 2) X2, wTx V (ad 11) L (nI z) b c d u, wRd (ad 12 0) (ad 11 0) lt, wSd (ad 12 1) (ad 13 0) (ad 14 0) sv, wCopy V (ad 13) A, wCopy V (ad 14) B, wHi (ad 12 2) (ad 12 3) (nI x) (nI s), wRs V (ad 12 3) 6 (fun j_ => ad (5 + j_) 0), wRing V (ad 5) (Hs 0), wRing V (ad 6) (Hs 1), wRing V (ad 7) (Hs 2), wRing V (ad 8) (Hs 3), wRing V (ad 9) (Hs 4), wRing V (ad 10) (Hs 5), wRs V (ad 12 4) 2 (fun j_ => ad (3 + j_) 0), wRing V (ad 3) X3, wRing V (ad 4) X4, wKz V (ad 12 5) kp, wSight V (ad 15) U, wSusp V (ad 16) Y])) := by
  refine CI_intro (by decide) (Nat.le_of_ble_eq_true rfl) (fun K cx hret => ?_)
  show G V K 2 0 0 ((List.flatten [wMain ad, wRing V (ad 0) X0, wRing V (ad 1) X1, wRing V (ad 2) X2, wTx V (ad 11) L (nI z) b c d u, wRd (ad 12 0) (ad 11 0) lt, wSd (ad 12 1) (ad 13 0) (ad 14 0) sv, wCopy V (ad 13) A, wCopy V (ad 14) B, wHi (ad 12 2) (ad 12 3) (nI x) (nI s), wRs V (ad 12 3) 6 (fun j_ => ad (5 + j_) 0), wRing V (ad 5) (Hs 0), wRing V (ad 6) (Hs 1), wRing V (ad 7) (Hs 2), wRing V (ad 8) (Hs 3), wRing V (ad 9) (Hs 4), wRing V (ad 10) (Hs 5), wRs V (ad 12 4) 2 (fun j_ => ad (3 + j_) 0), wRing V (ad 3) X3, wRing V (ad 4) X4, wKz V (ad 12 5) kp, wSight V (ad 15) U, wSusp V (ad 16) Y])) 0 [(0, .ref (ad 12 6)), (1, .int l)] []
  obtain ⟨hz, hx, hs, hn, hn6, hn1, ho, ho4, hm, hm7, hat, hbR, hbH, hbI, hk, hk6, hU⟩ := hC
  refine g_iload_n (v := l) cx dX8_count_0 rfl ?_
  refine g_tableIn cx 76 dX8_count_1 (by rw [hl]; decide) (by rw [hl]; decide) (by rw [hl]; rfl) (by decide) ?_
  refine g_aload_n (v := ad 12 6) cx dX8_count_76 rfl ?_
  refine b_get (v := .ref (ad 0 0)) cx fk_X8_10 dX8_count_77 0 0 rfl rfl rfl ?_
  refine b_calli (r0 := rLinks X0) (Ws' := [wMain ad, wRing V (ad 0) X0, wRing V (ad 1) X1, wRing V (ad 2) X2, wTx V (ad 11) L (nI z) b c d u, wRd (ad 12 0) (ad 11 0) lt, wSd (ad 12 1) (ad 13 0) (ad 14 0) sv, wCopy V (ad 13) A, wCopy V (ad 14) B, wHi (ad 12 2) (ad 12 3) (nI x) (nI s), wRs V (ad 12 3) 6 (fun j_ => ad (5 + j_) 0), wRing V (ad 5) (Hs 0), wRing V (ad 6) (Hs 1), wRing V (ad 7) (Hs 2), wRing V (ad 8) (Hs 3), wRing V (ad 9) (Hs 4), wRing V (ad 10) (Hs 5), wRs V (ad 12 4) 2 (fun j_ => ad (3 + j_) 0), wRing V (ad 3) X3, wRing V (ad 4) X4, wKz V (ad 12 5) kp, wSight V (ad 15) U, wSusp V (ad 16) Y]) (wcs := [wRing V (ad 0) X0]) (wos := [wRing V (ad 0) X0]) (As := []) (rest := []) cx (c_X3_links V (ad 0) X0) ml_X8_217 dX8_count_80 [1] rfl rfl (List.append_nil _) (List.append_nil _) [[ad 0 0, ad 0 1, ad 0 2, ad 0 3, ad 0 4, ad 0 5]] rfl rfl rfl 0 0 3 rfl rfl rfl rfl rfl rfl (Nat.le_of_ble_eq_true rfl) ⟨Nat.le_of_ble_eq_true rfl, Nat.le_of_ble_eq_true rfl⟩ ⟨Nat.le_refl _, Nat.le_refl _⟩ ?_
  exact hret _ _ _ _ dX8_count_83 (rfl) ⟨rfl, rfl⟩
def rm_X8_count_c3 : Room := { frames := 0, cells := 0, slots := 0, locals := 0 }
set_option maxRecDepth 100000 in
set_option maxHeartbeats 4000000 in
theorem c_X8_count_c3 (V : VT) (ad : Nat → Nat → Nat) (X0 X1 X2 X3 X4 : S2) (Hs : Nat → S2) (L : Nat → Int32) (z : Nat) (b c d u lt sv : Int32) (A B : S2) (x s : Nat) (kp : Nat → Int32) (U Y : S2) (n o m k : Nat) (hC : okC X0 X3 X4 Hs z x s n o m k U) (l : Int32) (hl : l = 3) : CI V yX8_count cX8_count 2 .int rm_X8_count_c3 [.ref (ad 12 6), .int l] ((List.flatten [wMain ad, wRing V (ad 0) X0, wRing V (ad 1) X1, wRing V (ad 2) X2, wTx V (ad 11) L (nI z) b c d u, wRd (ad 12 0) (ad 11 0) lt, wSd (ad 12 1) (ad 13 0) (ad 14 0) sv, wCopy V (ad 13) A, wCopy V (ad 14) B, wHi (ad 12 2) (ad 12 3) (nI x) (nI s), wRs V (ad 12 3) 6 (fun j_ => ad (5 + j_) 0), wRing V (ad 5) (Hs 0), wRing V (ad 6) (Hs 1), wRing V (ad 7) (Hs 2), wRing V (ad 8) (Hs 3), wRing V (ad 9) (Hs 4), wRing V (ad 10) (Hs 5), wRs V (ad 12 4) 2 (fun j_ => ad (3 + j_) 0), wRing V (ad 3) X3, wRing V (ad 4) X4, wKz V (ad 12 5) kp, wSight V (ad 15) U, wSusp V (ad 16) Y])) (fun r_ w_ => r_ = X0 5 2 ∧ w_ = (List.flatten [wMain ad, wRing V (ad 0) X0, wRing V (ad 1) X1, wRing V (ad 2) X2, wTx V (ad 11) L (nI z) b c d u, wRd (ad 12 0) (ad 11 0) lt, wSd (ad 12 1) (ad 13 0) (ad 14 0) sv, wCopy V (ad 13) A, wCopy V (ad 14) B, wHi (ad 12 2) (ad 12 3) (nI x) (nI s), wRs V (ad 12 3) 6 (fun j_ => ad (5 + j_) 0), wRing V (ad 5) (Hs 0), wRing V (ad 6) (Hs 1), wRing V (ad 7) (Hs 2), wRing V (ad 8) (Hs 3), wRing V (ad 9) (Hs 4), wRing V (ad 10) (Hs 5), wRs V (ad 12 4) 2 (fun j_ => ad (3 + j_) 0), wRing V (ad 3) X3, wRing V (ad 4) X4, wKz V (ad 12 5) kp, wSight V (ad 15) U, wSusp V (ad 16) Y])) := by
  refine CI_intro (by decide) (Nat.le_of_ble_eq_true rfl) (fun K cx hret => ?_)
  show G V K 2 0 0 ((List.flatten [wMain ad, wRing V (ad 0) X0, wRing V (ad 1) X1, wRing V (ad 2) X2, wTx V (ad 11) L (nI z) b c d u, wRd (ad 12 0) (ad 11 0) lt, wSd (ad 12 1) (ad 13 0) (ad 14 0) sv, wCopy V (ad 13) A, wCopy V (ad 14) B, wHi (ad 12 2) (ad 12 3) (nI x) (nI s), wRs V (ad 12 3) 6 (fun j_ => ad (5 + j_) 0), wRing V (ad 5) (Hs 0), wRing V (ad 6) (Hs 1), wRing V (ad 7) (Hs 2), wRing V (ad 8) (Hs 3), wRing V (ad 9) (Hs 4), wRing V (ad 10) (Hs 5), wRs V (ad 12 4) 2 (fun j_ => ad (3 + j_) 0), wRing V (ad 3) X3, wRing V (ad 4) X4, wKz V (ad 12 5) kp, wSight V (ad 15) U, wSusp V (ad 16) Y])) 0 [(0, .ref (ad 12 6)), (1, .int l)] []
  obtain ⟨hz, hx, hs, hn, hn6, hn1, ho, ho4, hm, hm7, hat, hbR, hbH, hbI, hk, hk6, hU⟩ := hC
  refine g_iload_n (v := l) cx dX8_count_0 rfl ?_
  refine g_tableIn cx 100 dX8_count_1 (by rw [hl]; decide) (by rw [hl]; decide) (by rw [hl]; rfl) (by decide) ?_
  refine g_aload_n (v := ad 12 6) cx dX8_count_100 rfl ?_
  refine b_get (v := .ref (ad 0 0)) cx fk_X8_10 dX8_count_101 0 0 rfl rfl rfl ?_
  refine b_get (v := .int (X0 5 2)) cx fk_X8_225 dX8_count_104 1 0 rfl rfl rfl ?_
  exact hret _ _ _ _ dX8_count_107 (rfl) ⟨rfl, rfl⟩
def rm_X8_count_c4 : Room := { frames := 0, cells := 0, slots := 0, locals := 0 }
set_option maxRecDepth 100000 in
set_option maxHeartbeats 4000000 in
theorem c_X8_count_c4 (V : VT) (ad : Nat → Nat → Nat) (X0 X1 X2 X3 X4 : S2) (Hs : Nat → S2) (L : Nat → Int32) (z : Nat) (b c d u lt sv : Int32) (A B : S2) (x s : Nat) (kp : Nat → Int32) (U Y : S2) (n o m k : Nat) (hC : okC X0 X3 X4 Hs z x s n o m k U) (l : Int32) (hl : l = 4) : CI V yX8_count cX8_count 2 .int rm_X8_count_c4 [.ref (ad 12 6), .int l] ((List.flatten [wMain ad, wRing V (ad 0) X0, wRing V (ad 1) X1, wRing V (ad 2) X2, wTx V (ad 11) L (nI z) b c d u, wRd (ad 12 0) (ad 11 0) lt, wSd (ad 12 1) (ad 13 0) (ad 14 0) sv, wCopy V (ad 13) A, wCopy V (ad 14) B, wHi (ad 12 2) (ad 12 3) (nI x) (nI s), wRs V (ad 12 3) 6 (fun j_ => ad (5 + j_) 0), wRing V (ad 5) (Hs 0), wRing V (ad 6) (Hs 1), wRing V (ad 7) (Hs 2), wRing V (ad 8) (Hs 3), wRing V (ad 9) (Hs 4), wRing V (ad 10) (Hs 5), wRs V (ad 12 4) 2 (fun j_ => ad (3 + j_) 0), wRing V (ad 3) X3, wRing V (ad 4) X4, wKz V (ad 12 5) kp, wSight V (ad 15) U, wSusp V (ad 16) Y])) (fun r_ w_ => r_ = X0 5 1 ∧ w_ = (List.flatten [wMain ad, wRing V (ad 0) X0, wRing V (ad 1) X1, wRing V (ad 2) X2, wTx V (ad 11) L (nI z) b c d u, wRd (ad 12 0) (ad 11 0) lt, wSd (ad 12 1) (ad 13 0) (ad 14 0) sv, wCopy V (ad 13) A, wCopy V (ad 14) B, wHi (ad 12 2) (ad 12 3) (nI x) (nI s), wRs V (ad 12 3) 6 (fun j_ => ad (5 + j_) 0), wRing V (ad 5) (Hs 0), wRing V (ad 6) (Hs 1), wRing V (ad 7) (Hs 2), wRing V (ad 8) (Hs 3), wRing V (ad 9) (Hs 4), wRing V (ad 10) (Hs 5), wRs V (ad 12 4) 2 (fun j_ => ad (3 + j_) 0), wRing V (ad 3) X3, wRing V (ad 4) X4, wKz V (ad 12 5) kp, wSight V (ad 15) U, wSusp V (ad 16) Y])) := by
  refine CI_intro (by decide) (Nat.le_of_ble_eq_true rfl) (fun K cx hret => ?_)
  show G V K 2 0 0 ((List.flatten [wMain ad, wRing V (ad 0) X0, wRing V (ad 1) X1, wRing V (ad 2) X2, wTx V (ad 11) L (nI z) b c d u, wRd (ad 12 0) (ad 11 0) lt, wSd (ad 12 1) (ad 13 0) (ad 14 0) sv, wCopy V (ad 13) A, wCopy V (ad 14) B, wHi (ad 12 2) (ad 12 3) (nI x) (nI s), wRs V (ad 12 3) 6 (fun j_ => ad (5 + j_) 0), wRing V (ad 5) (Hs 0), wRing V (ad 6) (Hs 1), wRing V (ad 7) (Hs 2), wRing V (ad 8) (Hs 3), wRing V (ad 9) (Hs 4), wRing V (ad 10) (Hs 5), wRs V (ad 12 4) 2 (fun j_ => ad (3 + j_) 0), wRing V (ad 3) X3, wRing V (ad 4) X4, wKz V (ad 12 5) kp, wSight V (ad 15) U, wSusp V (ad 16) Y])) 0 [(0, .ref (ad 12 6)), (1, .int l)] []
  obtain ⟨hz, hx, hs, hn, hn6, hn1, ho, ho4, hm, hm7, hat, hbR, hbH, hbI, hk, hk6, hU⟩ := hC
  refine g_iload_n (v := l) cx dX8_count_0 rfl ?_
  refine g_tableIn cx 108 dX8_count_1 (by rw [hl]; decide) (by rw [hl]; decide) (by rw [hl]; rfl) (by decide) ?_
  refine g_aload_n (v := ad 12 6) cx dX8_count_108 rfl ?_
  refine b_get (v := .ref (ad 0 0)) cx fk_X8_10 dX8_count_109 0 0 rfl rfl rfl ?_
  refine b_get (v := .int (X0 5 1)) cx fk_X8_102 dX8_count_112 1 0 rfl rfl rfl ?_
  exact hret _ _ _ _ dX8_count_115 (rfl) ⟨rfl, rfl⟩
def rm_X8_count_c5 : Room := { frames := 2, cells := 0, slots := 0, locals := 44 }
set_option maxRecDepth 100000 in
set_option maxHeartbeats 4000000 in
theorem c_X8_count_c5 (V : VT) (ad : Nat → Nat → Nat) (X0 X1 X2 X3 X4 : S2) (Hs : Nat → S2) (L : Nat → Int32) (z : Nat) (b c d u lt sv : Int32) (A B : S2) (x s : Nat) (kp : Nat → Int32) (U Y : S2) (n o m k : Nat) (hC : okC X0 X3 X4 Hs z x s n o m k U) (l : Int32) (hl : l = 5) : CI V yX8_count cX8_count 2 .int rm_X8_count_c5 [.ref (ad 12 6), .int l] ((List.flatten [wMain ad, wRing V (ad 0) X0, wRing V (ad 1) X1, wRing V (ad 2) X2, wTx V (ad 11) L (nI z) b c d u, wRd (ad 12 0) (ad 11 0) lt, wSd (ad 12 1) (ad 13 0) (ad 14 0) sv, wCopy V (ad 13) A, wCopy V (ad 14) B, wHi (ad 12 2) (ad 12 3) (nI x) (nI s), wRs V (ad 12 3) 6 (fun j_ => ad (5 + j_) 0), wRing V (ad 5) (Hs 0), wRing V (ad 6) (Hs 1), wRing V (ad 7) (Hs 2), wRing V (ad 8) (Hs 3), wRing V (ad 9) (Hs 4), wRing V (ad 10) (Hs 5), wRs V (ad 12 4) 2 (fun j_ => ad (3 + j_) 0), wRing V (ad 3) X3, wRing V (ad 4) X4, wKz V (ad 12 5) kp, wSight V (ad 15) U, wSusp V (ad 16) Y])) (fun r_ w_ => r_ = rCuts X0 m ∧ w_ = (List.flatten [wMain ad, wRing V (ad 0) X0, wRing V (ad 1) X1, wRing V (ad 2) X2, wTx V (ad 11) L (nI z) b c d u, wRd (ad 12 0) (ad 11 0) lt, wSd (ad 12 1) (ad 13 0) (ad 14 0) sv, wCopy V (ad 13) A, wCopy V (ad 14) B, wHi (ad 12 2) (ad 12 3) (nI x) (nI s), wRs V (ad 12 3) 6 (fun j_ => ad (5 + j_) 0), wRing V (ad 5) (Hs 0), wRing V (ad 6) (Hs 1), wRing V (ad 7) (Hs 2), wRing V (ad 8) (Hs 3), wRing V (ad 9) (Hs 4), wRing V (ad 10) (Hs 5), wRs V (ad 12 4) 2 (fun j_ => ad (3 + j_) 0), wRing V (ad 3) X3, wRing V (ad 4) X4, wKz V (ad 12 5) kp, wSight V (ad 15) U, wSusp V (ad 16) Y])) := by
  refine CI_intro (by decide) (Nat.le_of_ble_eq_true rfl) (fun K cx hret => ?_)
  show G V K 2 0 0 ((List.flatten [wMain ad, wRing V (ad 0) X0, wRing V (ad 1) X1, wRing V (ad 2) X2, wTx V (ad 11) L (nI z) b c d u, wRd (ad 12 0) (ad 11 0) lt, wSd (ad 12 1) (ad 13 0) (ad 14 0) sv, wCopy V (ad 13) A, wCopy V (ad 14) B, wHi (ad 12 2) (ad 12 3) (nI x) (nI s), wRs V (ad 12 3) 6 (fun j_ => ad (5 + j_) 0), wRing V (ad 5) (Hs 0), wRing V (ad 6) (Hs 1), wRing V (ad 7) (Hs 2), wRing V (ad 8) (Hs 3), wRing V (ad 9) (Hs 4), wRing V (ad 10) (Hs 5), wRs V (ad 12 4) 2 (fun j_ => ad (3 + j_) 0), wRing V (ad 3) X3, wRing V (ad 4) X4, wKz V (ad 12 5) kp, wSight V (ad 15) U, wSusp V (ad 16) Y])) 0 [(0, .ref (ad 12 6)), (1, .int l)] []
  obtain ⟨hz, hx, hs, hn, hn6, hn1, ho, ho4, hm, hm7, hat, hbR, hbH, hbI, hk, hk6, hU⟩ := hC
  refine g_iload_n (v := l) cx dX8_count_0 rfl ?_
  refine g_tableIn cx 116 dX8_count_1 (by rw [hl]; decide) (by rw [hl]; decide) (by rw [hl]; rfl) (by decide) ?_
  refine g_aload_n (v := ad 12 6) cx dX8_count_116 rfl ?_
  refine b_get (v := .ref (ad 0 0)) cx fk_X8_10 dX8_count_117 0 0 rfl rfl rfl ?_
  refine b_calli (r0 := rCuts X0 m) (Ws' := [wMain ad, wRing V (ad 0) X0, wRing V (ad 1) X1, wRing V (ad 2) X2, wTx V (ad 11) L (nI z) b c d u, wRd (ad 12 0) (ad 11 0) lt, wSd (ad 12 1) (ad 13 0) (ad 14 0) sv, wCopy V (ad 13) A, wCopy V (ad 14) B, wHi (ad 12 2) (ad 12 3) (nI x) (nI s), wRs V (ad 12 3) 6 (fun j_ => ad (5 + j_) 0), wRing V (ad 5) (Hs 0), wRing V (ad 6) (Hs 1), wRing V (ad 7) (Hs 2), wRing V (ad 8) (Hs 3), wRing V (ad 9) (Hs 4), wRing V (ad 10) (Hs 5), wRs V (ad 12 4) 2 (fun j_ => ad (3 + j_) 0), wRing V (ad 3) X3, wRing V (ad 4) X4, wKz V (ad 12 5) kp, wSight V (ad 15) U, wSusp V (ad 16) Y]) (wcs := [wRing V (ad 0) X0]) (wos := [wRing V (ad 0) X0]) (As := []) (rest := []) cx (c_X3_cutLinks V (ad 0) X0 m hm (by omega)) ml_X8_123 dX8_count_120 [1] rfl rfl (List.append_nil _) (List.append_nil _) [[ad 0 0, ad 0 1, ad 0 2, ad 0 3, ad 0 4, ad 0 5]] rfl rfl rfl 0 0 3 rfl rfl rfl rfl rfl rfl (Nat.le_of_ble_eq_true rfl) ⟨Nat.le_of_ble_eq_true rfl, Nat.le_of_ble_eq_true rfl⟩ ⟨Nat.le_refl _, Nat.le_refl _⟩ ?_
  exact hret _ _ _ _ dX8_count_123 (rfl) ⟨rfl, rfl⟩
def rm_X8_count_c6 : Room := { frames := 2, cells := 0, slots := 0, locals := 44 }
set_option maxRecDepth 100000 in
set_option maxHeartbeats 4000000 in
theorem c_X8_count_c6 (V : VT) (ad : Nat → Nat → Nat) (X0 X1 X2 X3 X4 : S2) (Hs : Nat → S2) (L : Nat → Int32) (z : Nat) (b c d u lt sv : Int32) (A B : S2) (x s : Nat) (kp : Nat → Int32) (U Y : S2) (n o m k : Nat) (hC : okC X0 X3 X4 Hs z x s n o m k U) (l : Int32) (hl : l = 6) : CI V yX8_count cX8_count 2 .int rm_X8_count_c6 [.ref (ad 12 6), .int l] ((List.flatten [wMain ad, wRing V (ad 0) X0, wRing V (ad 1) X1, wRing V (ad 2) X2, wTx V (ad 11) L (nI z) b c d u, wRd (ad 12 0) (ad 11 0) lt, wSd (ad 12 1) (ad 13 0) (ad 14 0) sv, wCopy V (ad 13) A, wCopy V (ad 14) B, wHi (ad 12 2) (ad 12 3) (nI x) (nI s), wRs V (ad 12 3) 6 (fun j_ => ad (5 + j_) 0), wRing V (ad 5) (Hs 0), wRing V (ad 6) (Hs 1), wRing V (ad 7) (Hs 2), wRing V (ad 8) (Hs 3), wRing V (ad 9) (Hs 4), wRing V (ad 10) (Hs 5), wRs V (ad 12 4) 2 (fun j_ => ad (3 + j_) 0), wRing V (ad 3) X3, wRing V (ad 4) X4, wKz V (ad 12 5) kp, wSight V (ad 15) U, wSusp V (ad 16) Y])) (fun r_ w_ => r_ = rSafe X0 n ∧ w_ = (List.flatten [wMain ad, wRing V (ad 0) X0, wRing V (ad 1) X1, wRing V (ad 2) X2, wTx V (ad 11) L (nI z) b c d u, wRd (ad 12 0) (ad 11 0) lt, wSd (ad 12 1) (ad 13 0) (ad 14 0) sv, wCopy V (ad 13) A, wCopy V (ad 14) B, wHi (ad 12 2) (ad 12 3) (nI x) (nI s), wRs V (ad 12 3) 6 (fun j_ => ad (5 + j_) 0), wRing V (ad 5) (Hs 0), wRing V (ad 6) (Hs 1), wRing V (ad 7) (Hs 2), wRing V (ad 8) (Hs 3), wRing V (ad 9) (Hs 4), wRing V (ad 10) (Hs 5), wRs V (ad 12 4) 2 (fun j_ => ad (3 + j_) 0), wRing V (ad 3) X3, wRing V (ad 4) X4, wKz V (ad 12 5) kp, wSight V (ad 15) U, wSusp V (ad 16) Y])) := by
  refine CI_intro (by decide) (Nat.le_of_ble_eq_true rfl) (fun K cx hret => ?_)
  show G V K 2 0 0 ((List.flatten [wMain ad, wRing V (ad 0) X0, wRing V (ad 1) X1, wRing V (ad 2) X2, wTx V (ad 11) L (nI z) b c d u, wRd (ad 12 0) (ad 11 0) lt, wSd (ad 12 1) (ad 13 0) (ad 14 0) sv, wCopy V (ad 13) A, wCopy V (ad 14) B, wHi (ad 12 2) (ad 12 3) (nI x) (nI s), wRs V (ad 12 3) 6 (fun j_ => ad (5 + j_) 0), wRing V (ad 5) (Hs 0), wRing V (ad 6) (Hs 1), wRing V (ad 7) (Hs 2), wRing V (ad 8) (Hs 3), wRing V (ad 9) (Hs 4), wRing V (ad 10) (Hs 5), wRs V (ad 12 4) 2 (fun j_ => ad (3 + j_) 0), wRing V (ad 3) X3, wRing V (ad 4) X4, wKz V (ad 12 5) kp, wSight V (ad 15) U, wSusp V (ad 16) Y])) 0 [(0, .ref (ad 12 6)), (1, .int l)] []
  obtain ⟨hz, hx, hs, hn, hn6, hn1, ho, ho4, hm, hm7, hat, hbR, hbH, hbI, hk, hk6, hU⟩ := hC
  refine g_iload_n (v := l) cx dX8_count_0 rfl ?_
  refine g_tableIn cx 124 dX8_count_1 (by rw [hl]; decide) (by rw [hl]; decide) (by rw [hl]; rfl) (by decide) ?_
  refine g_aload_n (v := ad 12 6) cx dX8_count_124 rfl ?_
  refine b_get (v := .ref (ad 0 0)) cx fk_X8_10 dX8_count_125 0 0 rfl rfl rfl ?_
  refine b_calli (r0 := rSafe X0 n) (Ws' := [wMain ad, wRing V (ad 0) X0, wRing V (ad 1) X1, wRing V (ad 2) X2, wTx V (ad 11) L (nI z) b c d u, wRd (ad 12 0) (ad 11 0) lt, wSd (ad 12 1) (ad 13 0) (ad 14 0) sv, wCopy V (ad 13) A, wCopy V (ad 14) B, wHi (ad 12 2) (ad 12 3) (nI x) (nI s), wRs V (ad 12 3) 6 (fun j_ => ad (5 + j_) 0), wRing V (ad 5) (Hs 0), wRing V (ad 6) (Hs 1), wRing V (ad 7) (Hs 2), wRing V (ad 8) (Hs 3), wRing V (ad 9) (Hs 4), wRing V (ad 10) (Hs 5), wRs V (ad 12 4) 2 (fun j_ => ad (3 + j_) 0), wRing V (ad 3) X3, wRing V (ad 4) X4, wKz V (ad 12 5) kp, wSight V (ad 15) U, wSusp V (ad 16) Y]) (wcs := [wRing V (ad 0) X0]) (wos := [wRing V (ad 0) X0]) (As := []) (rest := []) cx (c_X3_safeDrives V (ad 0) X0 n hn (by omega)) ml_X8_130 dX8_count_128 [1] rfl rfl (List.append_nil _) (List.append_nil _) [[ad 0 0, ad 0 1, ad 0 2, ad 0 3, ad 0 4, ad 0 5]] rfl rfl rfl 0 0 3 rfl rfl rfl rfl rfl rfl (Nat.le_of_ble_eq_true rfl) ⟨Nat.le_of_ble_eq_true rfl, Nat.le_of_ble_eq_true rfl⟩ ⟨Nat.le_refl _, Nat.le_refl _⟩ ?_
  exact hret _ _ _ _ dX8_count_131 (rfl) ⟨rfl, rfl⟩
def rm_X8_count_c7 : Room := { frames := 0, cells := 0, slots := 0, locals := 0 }
set_option maxRecDepth 100000 in
set_option maxHeartbeats 4000000 in
theorem c_X8_count_c7 (V : VT) (ad : Nat → Nat → Nat) (X0 X1 X2 X3 X4 : S2) (Hs : Nat → S2) (L : Nat → Int32) (z : Nat) (b c d u lt sv : Int32) (A B : S2) (x s : Nat) (kp : Nat → Int32) (U Y : S2) (n o m k : Nat) (hC : okC X0 X3 X4 Hs z x s n o m k U) (l : Int32) (hl : l = 7) : CI V yX8_count cX8_count 2 .int rm_X8_count_c7 [.ref (ad 12 6), .int l] ((List.flatten [wMain ad, wRing V (ad 0) X0, wRing V (ad 1) X1, wRing V (ad 2) X2, wTx V (ad 11) L (nI z) b c d u, wRd (ad 12 0) (ad 11 0) lt, wSd (ad 12 1) (ad 13 0) (ad 14 0) sv, wCopy V (ad 13) A, wCopy V (ad 14) B, wHi (ad 12 2) (ad 12 3) (nI x) (nI s), wRs V (ad 12 3) 6 (fun j_ => ad (5 + j_) 0), wRing V (ad 5) (Hs 0), wRing V (ad 6) (Hs 1), wRing V (ad 7) (Hs 2), wRing V (ad 8) (Hs 3), wRing V (ad 9) (Hs 4), wRing V (ad 10) (Hs 5), wRs V (ad 12 4) 2 (fun j_ => ad (3 + j_) 0), wRing V (ad 3) X3, wRing V (ad 4) X4, wKz V (ad 12 5) kp, wSight V (ad 15) U, wSusp V (ad 16) Y])) (fun r_ w_ => r_ = X0 5 3 ∧ w_ = (List.flatten [wMain ad, wRing V (ad 0) X0, wRing V (ad 1) X1, wRing V (ad 2) X2, wTx V (ad 11) L (nI z) b c d u, wRd (ad 12 0) (ad 11 0) lt, wSd (ad 12 1) (ad 13 0) (ad 14 0) sv, wCopy V (ad 13) A, wCopy V (ad 14) B, wHi (ad 12 2) (ad 12 3) (nI x) (nI s), wRs V (ad 12 3) 6 (fun j_ => ad (5 + j_) 0), wRing V (ad 5) (Hs 0), wRing V (ad 6) (Hs 1), wRing V (ad 7) (Hs 2), wRing V (ad 8) (Hs 3), wRing V (ad 9) (Hs 4), wRing V (ad 10) (Hs 5), wRs V (ad 12 4) 2 (fun j_ => ad (3 + j_) 0), wRing V (ad 3) X3, wRing V (ad 4) X4, wKz V (ad 12 5) kp, wSight V (ad 15) U, wSusp V (ad 16) Y])) := by
  refine CI_intro (by decide) (Nat.le_of_ble_eq_true rfl) (fun K cx hret => ?_)
  show G V K 2 0 0 ((List.flatten [wMain ad, wRing V (ad 0) X0, wRing V (ad 1) X1, wRing V (ad 2) X2, wTx V (ad 11) L (nI z) b c d u, wRd (ad 12 0) (ad 11 0) lt, wSd (ad 12 1) (ad 13 0) (ad 14 0) sv, wCopy V (ad 13) A, wCopy V (ad 14) B, wHi (ad 12 2) (ad 12 3) (nI x) (nI s), wRs V (ad 12 3) 6 (fun j_ => ad (5 + j_) 0), wRing V (ad 5) (Hs 0), wRing V (ad 6) (Hs 1), wRing V (ad 7) (Hs 2), wRing V (ad 8) (Hs 3), wRing V (ad 9) (Hs 4), wRing V (ad 10) (Hs 5), wRs V (ad 12 4) 2 (fun j_ => ad (3 + j_) 0), wRing V (ad 3) X3, wRing V (ad 4) X4, wKz V (ad 12 5) kp, wSight V (ad 15) U, wSusp V (ad 16) Y])) 0 [(0, .ref (ad 12 6)), (1, .int l)] []
  obtain ⟨hz, hx, hs, hn, hn6, hn1, ho, ho4, hm, hm7, hat, hbR, hbH, hbI, hk, hk6, hU⟩ := hC
  refine g_iload_n (v := l) cx dX8_count_0 rfl ?_
  refine g_tableIn cx 132 dX8_count_1 (by rw [hl]; decide) (by rw [hl]; decide) (by rw [hl]; rfl) (by decide) ?_
  refine g_aload_n (v := ad 12 6) cx dX8_count_132 rfl ?_
  refine b_get (v := .ref (ad 0 0)) cx fk_X8_10 dX8_count_133 0 0 rfl rfl rfl ?_
  refine b_get (v := .int (X0 5 3)) cx fk_X8_228 dX8_count_136 1 0 rfl rfl rfl ?_
  exact hret _ _ _ _ dX8_count_139 (rfl) ⟨rfl, rfl⟩
def rm_X8_count_c9 : Room := { frames := 3, cells := 0, slots := 0, locals := 66 }
set_option maxRecDepth 100000 in
set_option maxHeartbeats 4000000 in
theorem c_X8_count_c9 (V : VT) (ad : Nat → Nat → Nat) (X0 X1 X2 X3 X4 : S2) (Hs : Nat → S2) (L : Nat → Int32) (z : Nat) (b c d u lt sv : Int32) (A B : S2) (x s : Nat) (kp : Nat → Int32) (U Y : S2) (n o m k : Nat) (hC : okC X0 X3 X4 Hs z x s n o m k U) (l : Int32) (hl : l = 9) : CI V yX8_count cX8_count 2 .int rm_X8_count_c9 [.ref (ad 12 6), .int l] ((List.flatten [wMain ad, wRing V (ad 0) X0, wRing V (ad 1) X1, wRing V (ad 2) X2, wTx V (ad 11) L (nI z) b c d u, wRd (ad 12 0) (ad 11 0) lt, wSd (ad 12 1) (ad 13 0) (ad 14 0) sv, wCopy V (ad 13) A, wCopy V (ad 14) B, wHi (ad 12 2) (ad 12 3) (nI x) (nI s), wRs V (ad 12 3) 6 (fun j_ => ad (5 + j_) 0), wRing V (ad 5) (Hs 0), wRing V (ad 6) (Hs 1), wRing V (ad 7) (Hs 2), wRing V (ad 8) (Hs 3), wRing V (ad 9) (Hs 4), wRing V (ad 10) (Hs 5), wRs V (ad 12 4) 2 (fun j_ => ad (3 + j_) 0), wRing V (ad 3) X3, wRing V (ad 4) X4, wKz V (ad 12 5) kp, wSight V (ad 15) U, wSusp V (ad 16) Y])) (fun r_ w_ => r_ = rMax X0 (n - 1) - rMin X0 (n - 1) ∧ w_ = (List.flatten [wMain ad, wRing V (ad 0) X0, wRing V (ad 1) X1, wRing V (ad 2) X2, wTx V (ad 11) L (nI z) b c d u, wRd (ad 12 0) (ad 11 0) lt, wSd (ad 12 1) (ad 13 0) (ad 14 0) sv, wCopy V (ad 13) A, wCopy V (ad 14) B, wHi (ad 12 2) (ad 12 3) (nI x) (nI s), wRs V (ad 12 3) 6 (fun j_ => ad (5 + j_) 0), wRing V (ad 5) (Hs 0), wRing V (ad 6) (Hs 1), wRing V (ad 7) (Hs 2), wRing V (ad 8) (Hs 3), wRing V (ad 9) (Hs 4), wRing V (ad 10) (Hs 5), wRs V (ad 12 4) 2 (fun j_ => ad (3 + j_) 0), wRing V (ad 3) X3, wRing V (ad 4) X4, wKz V (ad 12 5) kp, wSight V (ad 15) U, wSusp V (ad 16) Y])) := by
  refine CI_intro (by decide) (Nat.le_of_ble_eq_true rfl) (fun K cx hret => ?_)
  show G V K 2 0 0 ((List.flatten [wMain ad, wRing V (ad 0) X0, wRing V (ad 1) X1, wRing V (ad 2) X2, wTx V (ad 11) L (nI z) b c d u, wRd (ad 12 0) (ad 11 0) lt, wSd (ad 12 1) (ad 13 0) (ad 14 0) sv, wCopy V (ad 13) A, wCopy V (ad 14) B, wHi (ad 12 2) (ad 12 3) (nI x) (nI s), wRs V (ad 12 3) 6 (fun j_ => ad (5 + j_) 0), wRing V (ad 5) (Hs 0), wRing V (ad 6) (Hs 1), wRing V (ad 7) (Hs 2), wRing V (ad 8) (Hs 3), wRing V (ad 9) (Hs 4), wRing V (ad 10) (Hs 5), wRs V (ad 12 4) 2 (fun j_ => ad (3 + j_) 0), wRing V (ad 3) X3, wRing V (ad 4) X4, wKz V (ad 12 5) kp, wSight V (ad 15) U, wSusp V (ad 16) Y])) 0 [(0, .ref (ad 12 6)), (1, .int l)] []
  obtain ⟨hz, hx, hs, hn, hn6, hn1, ho, ho4, hm, hm7, hat, hbR, hbH, hbI, hk, hk6, hU⟩ := hC
  refine g_iload_n (v := l) cx dX8_count_0 rfl ?_
  refine g_tableIn cx 156 dX8_count_1 (by rw [hl]; decide) (by rw [hl]; decide) (by rw [hl]; rfl) (by decide) ?_
  refine g_aload_n (v := ad 12 6) cx dX8_count_156 rfl ?_
  refine b_get (v := .ref (ad 0 0)) cx fk_X8_10 dX8_count_157 0 0 rfl rfl rfl ?_
  refine b_calli (r0 := rMax X0 (n - 1) - rMin X0 (n - 1)) (Ws' := [wMain ad, wRing V (ad 0) X0, wRing V (ad 1) X1, wRing V (ad 2) X2, wTx V (ad 11) L (nI z) b c d u, wRd (ad 12 0) (ad 11 0) lt, wSd (ad 12 1) (ad 13 0) (ad 14 0) sv, wCopy V (ad 13) A, wCopy V (ad 14) B, wHi (ad 12 2) (ad 12 3) (nI x) (nI s), wRs V (ad 12 3) 6 (fun j_ => ad (5 + j_) 0), wRing V (ad 5) (Hs 0), wRing V (ad 6) (Hs 1), wRing V (ad 7) (Hs 2), wRing V (ad 8) (Hs 3), wRing V (ad 9) (Hs 4), wRing V (ad 10) (Hs 5), wRs V (ad 12 4) 2 (fun j_ => ad (3 + j_) 0), wRing V (ad 3) X3, wRing V (ad 4) X4, wKz V (ad 12 5) kp, wSight V (ad 15) U, wSusp V (ad 16) Y]) (wcs := [wRing V (ad 0) X0]) (wos := [wRing V (ad 0) X0]) (As := []) (rest := []) cx (c_X3_spread V (ad 0) X0 n hn (by omega) (by omega)) ml_X8_231 dX8_count_160 [1] rfl rfl (List.append_nil _) (List.append_nil _) [[ad 0 0, ad 0 1, ad 0 2, ad 0 3, ad 0 4, ad 0 5]] rfl rfl rfl 0 0 3 rfl rfl rfl rfl rfl rfl (Nat.le_of_ble_eq_true rfl) ⟨Nat.le_of_ble_eq_true rfl, Nat.le_of_ble_eq_true rfl⟩ ⟨Nat.le_refl _, Nat.le_refl _⟩ ?_
  exact hret _ _ _ _ dX8_count_163 (rfl) ⟨rfl, rfl⟩
def rm_X8_count_c10 : Room := { frames := 0, cells := 0, slots := 0, locals := 0 }
set_option maxRecDepth 100000 in
set_option maxHeartbeats 4000000 in
theorem c_X8_count_c10 (V : VT) (ad : Nat → Nat → Nat) (X0 X1 X2 X3 X4 : S2) (Hs : Nat → S2) (L : Nat → Int32) (z : Nat) (b c d u lt sv : Int32) (A B : S2) (x s : Nat) (kp : Nat → Int32) (U Y : S2) (n o m k : Nat) (hC : okC X0 X3 X4 Hs z x s n o m k U) (l : Int32) (hl : l = 10) : CI V yX8_count cX8_count 2 .int rm_X8_count_c10 [.ref (ad 12 6), .int l] ((List.flatten [wMain ad, wRing V (ad 0) X0, wRing V (ad 1) X1, wRing V (ad 2) X2, wTx V (ad 11) L (nI z) b c d u, wRd (ad 12 0) (ad 11 0) lt, wSd (ad 12 1) (ad 13 0) (ad 14 0) sv, wCopy V (ad 13) A, wCopy V (ad 14) B, wHi (ad 12 2) (ad 12 3) (nI x) (nI s), wRs V (ad 12 3) 6 (fun j_ => ad (5 + j_) 0), wRing V (ad 5) (Hs 0), wRing V (ad 6) (Hs 1), wRing V (ad 7) (Hs 2), wRing V (ad 8) (Hs 3), wRing V (ad 9) (Hs 4), wRing V (ad 10) (Hs 5), wRs V (ad 12 4) 2 (fun j_ => ad (3 + j_) 0), wRing V (ad 3) X3, wRing V (ad 4) X4, wKz V (ad 12 5) kp, wSight V (ad 15) U, wSusp V (ad 16) Y])) (fun r_ w_ => r_ = U 2 0 ∧ w_ = (List.flatten [wMain ad, wRing V (ad 0) X0, wRing V (ad 1) X1, wRing V (ad 2) X2, wTx V (ad 11) L (nI z) b c d u, wRd (ad 12 0) (ad 11 0) lt, wSd (ad 12 1) (ad 13 0) (ad 14 0) sv, wCopy V (ad 13) A, wCopy V (ad 14) B, wHi (ad 12 2) (ad 12 3) (nI x) (nI s), wRs V (ad 12 3) 6 (fun j_ => ad (5 + j_) 0), wRing V (ad 5) (Hs 0), wRing V (ad 6) (Hs 1), wRing V (ad 7) (Hs 2), wRing V (ad 8) (Hs 3), wRing V (ad 9) (Hs 4), wRing V (ad 10) (Hs 5), wRs V (ad 12 4) 2 (fun j_ => ad (3 + j_) 0), wRing V (ad 3) X3, wRing V (ad 4) X4, wKz V (ad 12 5) kp, wSight V (ad 15) U, wSusp V (ad 16) Y])) := by
  refine CI_intro (by decide) (Nat.le_of_ble_eq_true rfl) (fun K cx hret => ?_)
  show G V K 2 0 0 ((List.flatten [wMain ad, wRing V (ad 0) X0, wRing V (ad 1) X1, wRing V (ad 2) X2, wTx V (ad 11) L (nI z) b c d u, wRd (ad 12 0) (ad 11 0) lt, wSd (ad 12 1) (ad 13 0) (ad 14 0) sv, wCopy V (ad 13) A, wCopy V (ad 14) B, wHi (ad 12 2) (ad 12 3) (nI x) (nI s), wRs V (ad 12 3) 6 (fun j_ => ad (5 + j_) 0), wRing V (ad 5) (Hs 0), wRing V (ad 6) (Hs 1), wRing V (ad 7) (Hs 2), wRing V (ad 8) (Hs 3), wRing V (ad 9) (Hs 4), wRing V (ad 10) (Hs 5), wRs V (ad 12 4) 2 (fun j_ => ad (3 + j_) 0), wRing V (ad 3) X3, wRing V (ad 4) X4, wKz V (ad 12 5) kp, wSight V (ad 15) U, wSusp V (ad 16) Y])) 0 [(0, .ref (ad 12 6)), (1, .int l)] []
  obtain ⟨hz, hx, hs, hn, hn6, hn1, ho, ho4, hm, hm7, hat, hbR, hbH, hbI, hk, hk6, hU⟩ := hC
  refine g_iload_n (v := l) cx dX8_count_0 rfl ?_
  refine g_tableIn cx 164 dX8_count_1 (by rw [hl]; decide) (by rw [hl]; decide) (by rw [hl]; rfl) (by decide) ?_
  refine g_aload_n (v := ad 12 6) cx dX8_count_164 rfl ?_
  refine b_get (v := .ref (ad 15 0)) cx fk_X8_63 dX8_count_165 0 0 rfl rfl rfl ?_
  refine b_get (v := .int (U 2 0)) cx fk_X8_200 dX8_count_168 21 0 rfl rfl rfl ?_
  exact hret _ _ _ _ dX8_count_171 (rfl) ⟨rfl, rfl⟩
def rm_X8_count_c11 : Room := { frames := 0, cells := 0, slots := 0, locals := 0 }
set_option maxRecDepth 100000 in
set_option maxHeartbeats 4000000 in
theorem c_X8_count_c11 (V : VT) (ad : Nat → Nat → Nat) (X0 X1 X2 X3 X4 : S2) (Hs : Nat → S2) (L : Nat → Int32) (z : Nat) (b c d u lt sv : Int32) (A B : S2) (x s : Nat) (kp : Nat → Int32) (U Y : S2) (n o m k : Nat) (hC : okC X0 X3 X4 Hs z x s n o m k U) (l : Int32) (hl : l = 11) : CI V yX8_count cX8_count 2 .int rm_X8_count_c11 [.ref (ad 12 6), .int l] ((List.flatten [wMain ad, wRing V (ad 0) X0, wRing V (ad 1) X1, wRing V (ad 2) X2, wTx V (ad 11) L (nI z) b c d u, wRd (ad 12 0) (ad 11 0) lt, wSd (ad 12 1) (ad 13 0) (ad 14 0) sv, wCopy V (ad 13) A, wCopy V (ad 14) B, wHi (ad 12 2) (ad 12 3) (nI x) (nI s), wRs V (ad 12 3) 6 (fun j_ => ad (5 + j_) 0), wRing V (ad 5) (Hs 0), wRing V (ad 6) (Hs 1), wRing V (ad 7) (Hs 2), wRing V (ad 8) (Hs 3), wRing V (ad 9) (Hs 4), wRing V (ad 10) (Hs 5), wRs V (ad 12 4) 2 (fun j_ => ad (3 + j_) 0), wRing V (ad 3) X3, wRing V (ad 4) X4, wKz V (ad 12 5) kp, wSight V (ad 15) U, wSusp V (ad 16) Y])) (fun r_ w_ => r_ = nI z ∧ w_ = (List.flatten [wMain ad, wRing V (ad 0) X0, wRing V (ad 1) X1, wRing V (ad 2) X2, wTx V (ad 11) L (nI z) b c d u, wRd (ad 12 0) (ad 11 0) lt, wSd (ad 12 1) (ad 13 0) (ad 14 0) sv, wCopy V (ad 13) A, wCopy V (ad 14) B, wHi (ad 12 2) (ad 12 3) (nI x) (nI s), wRs V (ad 12 3) 6 (fun j_ => ad (5 + j_) 0), wRing V (ad 5) (Hs 0), wRing V (ad 6) (Hs 1), wRing V (ad 7) (Hs 2), wRing V (ad 8) (Hs 3), wRing V (ad 9) (Hs 4), wRing V (ad 10) (Hs 5), wRs V (ad 12 4) 2 (fun j_ => ad (3 + j_) 0), wRing V (ad 3) X3, wRing V (ad 4) X4, wKz V (ad 12 5) kp, wSight V (ad 15) U, wSusp V (ad 16) Y])) := by
  refine CI_intro (by decide) (Nat.le_of_ble_eq_true rfl) (fun K cx hret => ?_)
  show G V K 2 0 0 ((List.flatten [wMain ad, wRing V (ad 0) X0, wRing V (ad 1) X1, wRing V (ad 2) X2, wTx V (ad 11) L (nI z) b c d u, wRd (ad 12 0) (ad 11 0) lt, wSd (ad 12 1) (ad 13 0) (ad 14 0) sv, wCopy V (ad 13) A, wCopy V (ad 14) B, wHi (ad 12 2) (ad 12 3) (nI x) (nI s), wRs V (ad 12 3) 6 (fun j_ => ad (5 + j_) 0), wRing V (ad 5) (Hs 0), wRing V (ad 6) (Hs 1), wRing V (ad 7) (Hs 2), wRing V (ad 8) (Hs 3), wRing V (ad 9) (Hs 4), wRing V (ad 10) (Hs 5), wRs V (ad 12 4) 2 (fun j_ => ad (3 + j_) 0), wRing V (ad 3) X3, wRing V (ad 4) X4, wKz V (ad 12 5) kp, wSight V (ad 15) U, wSusp V (ad 16) Y])) 0 [(0, .ref (ad 12 6)), (1, .int l)] []
  obtain ⟨hz, hx, hs, hn, hn6, hn1, ho, ho4, hm, hm7, hat, hbR, hbH, hbI, hk, hk6, hU⟩ := hC
  refine g_iload_n (v := l) cx dX8_count_0 rfl ?_
  refine g_tableIn cx 172 dX8_count_1 (by rw [hl]; decide) (by rw [hl]; decide) (by rw [hl]; rfl) (by decide) ?_
  refine g_aload_n (v := ad 12 6) cx dX8_count_172 rfl ?_
  refine b_get (v := .ref (ad 11 0)) cx fk_X8_25 dX8_count_173 0 0 rfl rfl rfl ?_
  refine b_get (v := .int (nI z)) cx fk_X8_74 dX8_count_176 4 0 rfl rfl rfl ?_
  exact hret _ _ _ _ dX8_count_179 (rfl) ⟨rfl, rfl⟩
def rm_X8_count_c12 : Room := { frames := 0, cells := 0, slots := 0, locals := 0 }
set_option maxRecDepth 100000 in
set_option maxHeartbeats 4000000 in
theorem c_X8_count_c12 (V : VT) (ad : Nat → Nat → Nat) (X0 X1 X2 X3 X4 : S2) (Hs : Nat → S2) (L : Nat → Int32) (z : Nat) (b c d u lt sv : Int32) (A B : S2) (x s : Nat) (kp : Nat → Int32) (U Y : S2) (n o m k : Nat) (hC : okC X0 X3 X4 Hs z x s n o m k U) (l : Int32) (hl : l = 12) : CI V yX8_count cX8_count 2 .int rm_X8_count_c12 [.ref (ad 12 6), .int l] ((List.flatten [wMain ad, wRing V (ad 0) X0, wRing V (ad 1) X1, wRing V (ad 2) X2, wTx V (ad 11) L (nI z) b c d u, wRd (ad 12 0) (ad 11 0) lt, wSd (ad 12 1) (ad 13 0) (ad 14 0) sv, wCopy V (ad 13) A, wCopy V (ad 14) B, wHi (ad 12 2) (ad 12 3) (nI x) (nI s), wRs V (ad 12 3) 6 (fun j_ => ad (5 + j_) 0), wRing V (ad 5) (Hs 0), wRing V (ad 6) (Hs 1), wRing V (ad 7) (Hs 2), wRing V (ad 8) (Hs 3), wRing V (ad 9) (Hs 4), wRing V (ad 10) (Hs 5), wRs V (ad 12 4) 2 (fun j_ => ad (3 + j_) 0), wRing V (ad 3) X3, wRing V (ad 4) X4, wKz V (ad 12 5) kp, wSight V (ad 15) U, wSusp V (ad 16) Y])) (fun r_ w_ => r_ = nI s ∧ w_ = (List.flatten [wMain ad, wRing V (ad 0) X0, wRing V (ad 1) X1, wRing V (ad 2) X2, wTx V (ad 11) L (nI z) b c d u, wRd (ad 12 0) (ad 11 0) lt, wSd (ad 12 1) (ad 13 0) (ad 14 0) sv, wCopy V (ad 13) A, wCopy V (ad 14) B, wHi (ad 12 2) (ad 12 3) (nI x) (nI s), wRs V (ad 12 3) 6 (fun j_ => ad (5 + j_) 0), wRing V (ad 5) (Hs 0), wRing V (ad 6) (Hs 1), wRing V (ad 7) (Hs 2), wRing V (ad 8) (Hs 3), wRing V (ad 9) (Hs 4), wRing V (ad 10) (Hs 5), wRs V (ad 12 4) 2 (fun j_ => ad (3 + j_) 0), wRing V (ad 3) X3, wRing V (ad 4) X4, wKz V (ad 12 5) kp, wSight V (ad 15) U, wSusp V (ad 16) Y])) := by
  refine CI_intro (by decide) (Nat.le_of_ble_eq_true rfl) (fun K cx hret => ?_)
  show G V K 2 0 0 ((List.flatten [wMain ad, wRing V (ad 0) X0, wRing V (ad 1) X1, wRing V (ad 2) X2, wTx V (ad 11) L (nI z) b c d u, wRd (ad 12 0) (ad 11 0) lt, wSd (ad 12 1) (ad 13 0) (ad 14 0) sv, wCopy V (ad 13) A, wCopy V (ad 14) B, wHi (ad 12 2) (ad 12 3) (nI x) (nI s), wRs V (ad 12 3) 6 (fun j_ => ad (5 + j_) 0), wRing V (ad 5) (Hs 0), wRing V (ad 6) (Hs 1), wRing V (ad 7) (Hs 2), wRing V (ad 8) (Hs 3), wRing V (ad 9) (Hs 4), wRing V (ad 10) (Hs 5), wRs V (ad 12 4) 2 (fun j_ => ad (3 + j_) 0), wRing V (ad 3) X3, wRing V (ad 4) X4, wKz V (ad 12 5) kp, wSight V (ad 15) U, wSusp V (ad 16) Y])) 0 [(0, .ref (ad 12 6)), (1, .int l)] []
  obtain ⟨hz, hx, hs, hn, hn6, hn1, ho, ho4, hm, hm7, hat, hbR, hbH, hbI, hk, hk6, hU⟩ := hC
  refine g_iload_n (v := l) cx dX8_count_0 rfl ?_
  refine g_tableIn cx 180 dX8_count_1 (by rw [hl]; decide) (by rw [hl]; decide) (by rw [hl]; rfl) (by decide) ?_
  refine g_aload_n (v := ad 12 6) cx dX8_count_180 rfl ?_
  refine b_get (v := .ref (ad 12 2)) cx fk_X8_48 dX8_count_181 0 0 rfl rfl rfl ?_
  refine b_get (v := .int (nI s)) cx fk_X8_158 dX8_count_184 9 0 rfl rfl rfl ?_
  exact hret _ _ _ _ dX8_count_187 (rfl) ⟨rfl, rfl⟩
def rm_X8_count_c2 : Room := { frames := 0, cells := 0, slots := 0, locals := 0 }
set_option maxRecDepth 100000 in
set_option maxHeartbeats 4000000 in
theorem c_X8_count_c2 (V : VT) (ad : Nat → Nat → Nat) (X0 X1 X2 X3 X4 : S2) (Hs : Nat → S2) (L : Nat → Int32) (z : Nat) (b c d u lt sv : Int32) (A B : S2) (x s : Nat) (kp : Nat → Int32) (U Y : S2) (n o m k : Nat) (hC : okC X0 X3 X4 Hs z x s n o m k U) (l : Int32) (hl : l = 2) : CI V yX8_count cX8_count 2 .int rm_X8_count_c2 [.ref (ad 12 6), .int l] ((List.flatten [wMain ad, wRing V (ad 0) X0, wRing V (ad 1) X1, wRing V (ad 2) X2, wTx V (ad 11) L (nI z) b c d u, wRd (ad 12 0) (ad 11 0) lt, wSd (ad 12 1) (ad 13 0) (ad 14 0) sv, wCopy V (ad 13) A, wCopy V (ad 14) B, wHi (ad 12 2) (ad 12 3) (nI x) (nI s), wRs V (ad 12 3) 6 (fun j_ => ad (5 + j_) 0), wRing V (ad 5) (Hs 0), wRing V (ad 6) (Hs 1), wRing V (ad 7) (Hs 2), wRing V (ad 8) (Hs 3), wRing V (ad 9) (Hs 4), wRing V (ad 10) (Hs 5), wRs V (ad 12 4) 2 (fun j_ => ad (3 + j_) 0), wRing V (ad 3) X3, wRing V (ad 4) X4, wKz V (ad 12 5) kp, wSight V (ad 15) U, wSusp V (ad 16) Y])) (fun r_ w_ => r_ = X0 5 4 ∧ w_ = (List.flatten [wMain ad, wRing V (ad 0) X0, wRing V (ad 1) X1, wRing V (ad 2) X2, wTx V (ad 11) L (nI z) b c d u, wRd (ad 12 0) (ad 11 0) lt, wSd (ad 12 1) (ad 13 0) (ad 14 0) sv, wCopy V (ad 13) A, wCopy V (ad 14) B, wHi (ad 12 2) (ad 12 3) (nI x) (nI s), wRs V (ad 12 3) 6 (fun j_ => ad (5 + j_) 0), wRing V (ad 5) (Hs 0), wRing V (ad 6) (Hs 1), wRing V (ad 7) (Hs 2), wRing V (ad 8) (Hs 3), wRing V (ad 9) (Hs 4), wRing V (ad 10) (Hs 5), wRs V (ad 12 4) 2 (fun j_ => ad (3 + j_) 0), wRing V (ad 3) X3, wRing V (ad 4) X4, wKz V (ad 12 5) kp, wSight V (ad 15) U, wSusp V (ad 16) Y])) := by
  refine CI_intro (by decide) (Nat.le_of_ble_eq_true rfl) (fun K cx hret => ?_)
  show G V K 2 0 0 ((List.flatten [wMain ad, wRing V (ad 0) X0, wRing V (ad 1) X1, wRing V (ad 2) X2, wTx V (ad 11) L (nI z) b c d u, wRd (ad 12 0) (ad 11 0) lt, wSd (ad 12 1) (ad 13 0) (ad 14 0) sv, wCopy V (ad 13) A, wCopy V (ad 14) B, wHi (ad 12 2) (ad 12 3) (nI x) (nI s), wRs V (ad 12 3) 6 (fun j_ => ad (5 + j_) 0), wRing V (ad 5) (Hs 0), wRing V (ad 6) (Hs 1), wRing V (ad 7) (Hs 2), wRing V (ad 8) (Hs 3), wRing V (ad 9) (Hs 4), wRing V (ad 10) (Hs 5), wRs V (ad 12 4) 2 (fun j_ => ad (3 + j_) 0), wRing V (ad 3) X3, wRing V (ad 4) X4, wKz V (ad 12 5) kp, wSight V (ad 15) U, wSusp V (ad 16) Y])) 0 [(0, .ref (ad 12 6)), (1, .int l)] []
  obtain ⟨hz, hx, hs, hn, hn6, hn1, ho, ho4, hm, hm7, hat, hbR, hbH, hbI, hk, hk6, hU⟩ := hC
  refine g_iload_n (v := l) cx dX8_count_0 rfl ?_
  refine g_tableIn cx 84 dX8_count_1 (by rw [hl]; decide) (by rw [hl]; decide) (by rw [hl]; rfl) (by decide) ?_
  refine g_aload_n (v := ad 12 6) cx dX8_count_84 rfl ?_
  refine b_get (v := .ref (ad 0 0)) cx fk_X8_10 dX8_count_85 0 0 rfl rfl rfl ?_
  refine b_get (v := .int (X0 5 4)) cx fk_X8_222 dX8_count_88 1 0 rfl rfl rfl ?_
  refine g_if_eq cx 98 dX8_count_91 (by decide) (fun hw1 => ?_) (fun hw1 => ?_)
  · skip
    refine g_iconst (v := 0) cx dX8_count_98 (by decide) ?_
    exact hret _ _ _ _ dX8_count_99 (rfl) (⟨(hw1).symm, rfl⟩)
  · skip
    refine g_iconst (v := 1) cx dX8_count_94 (by decide) ?_
    refine g_goto cx 99 dX8_count_95 (by decide) ?_
    exact hret _ _ _ _ dX8_count_99 (rfl) (⟨((hbR.1).resolve_left hw1).symm, rfl⟩)
def rm_X8_count_c8 : Room := { frames := 0, cells := 0, slots := 0, locals := 0 }
set_option maxRecDepth 100000 in
set_option maxHeartbeats 4000000 in
theorem c_X8_count_c8 (V : VT) (ad : Nat → Nat → Nat) (X0 X1 X2 X3 X4 : S2) (Hs : Nat → S2) (L : Nat → Int32) (z : Nat) (b c d u lt sv : Int32) (A B : S2) (x s : Nat) (kp : Nat → Int32) (U Y : S2) (n o m k : Nat) (hC : okC X0 X3 X4 Hs z x s n o m k U) (l : Int32) (hl : l = 8) : CI V yX8_count cX8_count 2 .int rm_X8_count_c8 [.ref (ad 12 6), .int l] ((List.flatten [wMain ad, wRing V (ad 0) X0, wRing V (ad 1) X1, wRing V (ad 2) X2, wTx V (ad 11) L (nI z) b c d u, wRd (ad 12 0) (ad 11 0) lt, wSd (ad 12 1) (ad 13 0) (ad 14 0) sv, wCopy V (ad 13) A, wCopy V (ad 14) B, wHi (ad 12 2) (ad 12 3) (nI x) (nI s), wRs V (ad 12 3) 6 (fun j_ => ad (5 + j_) 0), wRing V (ad 5) (Hs 0), wRing V (ad 6) (Hs 1), wRing V (ad 7) (Hs 2), wRing V (ad 8) (Hs 3), wRing V (ad 9) (Hs 4), wRing V (ad 10) (Hs 5), wRs V (ad 12 4) 2 (fun j_ => ad (3 + j_) 0), wRing V (ad 3) X3, wRing V (ad 4) X4, wKz V (ad 12 5) kp, wSight V (ad 15) U, wSusp V (ad 16) Y])) (fun r_ w_ => r_ = X0 5 6 ∧ w_ = (List.flatten [wMain ad, wRing V (ad 0) X0, wRing V (ad 1) X1, wRing V (ad 2) X2, wTx V (ad 11) L (nI z) b c d u, wRd (ad 12 0) (ad 11 0) lt, wSd (ad 12 1) (ad 13 0) (ad 14 0) sv, wCopy V (ad 13) A, wCopy V (ad 14) B, wHi (ad 12 2) (ad 12 3) (nI x) (nI s), wRs V (ad 12 3) 6 (fun j_ => ad (5 + j_) 0), wRing V (ad 5) (Hs 0), wRing V (ad 6) (Hs 1), wRing V (ad 7) (Hs 2), wRing V (ad 8) (Hs 3), wRing V (ad 9) (Hs 4), wRing V (ad 10) (Hs 5), wRs V (ad 12 4) 2 (fun j_ => ad (3 + j_) 0), wRing V (ad 3) X3, wRing V (ad 4) X4, wKz V (ad 12 5) kp, wSight V (ad 15) U, wSusp V (ad 16) Y])) := by
  refine CI_intro (by decide) (Nat.le_of_ble_eq_true rfl) (fun K cx hret => ?_)
  show G V K 2 0 0 ((List.flatten [wMain ad, wRing V (ad 0) X0, wRing V (ad 1) X1, wRing V (ad 2) X2, wTx V (ad 11) L (nI z) b c d u, wRd (ad 12 0) (ad 11 0) lt, wSd (ad 12 1) (ad 13 0) (ad 14 0) sv, wCopy V (ad 13) A, wCopy V (ad 14) B, wHi (ad 12 2) (ad 12 3) (nI x) (nI s), wRs V (ad 12 3) 6 (fun j_ => ad (5 + j_) 0), wRing V (ad 5) (Hs 0), wRing V (ad 6) (Hs 1), wRing V (ad 7) (Hs 2), wRing V (ad 8) (Hs 3), wRing V (ad 9) (Hs 4), wRing V (ad 10) (Hs 5), wRs V (ad 12 4) 2 (fun j_ => ad (3 + j_) 0), wRing V (ad 3) X3, wRing V (ad 4) X4, wKz V (ad 12 5) kp, wSight V (ad 15) U, wSusp V (ad 16) Y])) 0 [(0, .ref (ad 12 6)), (1, .int l)] []
  obtain ⟨hz, hx, hs, hn, hn6, hn1, ho, ho4, hm, hm7, hat, hbR, hbH, hbI, hk, hk6, hU⟩ := hC
  refine g_iload_n (v := l) cx dX8_count_0 rfl ?_
  refine g_tableIn cx 140 dX8_count_1 (by rw [hl]; decide) (by rw [hl]; decide) (by rw [hl]; rfl) (by decide) ?_
  refine g_aload_n (v := ad 12 6) cx dX8_count_140 rfl ?_
  refine b_get (v := .ref (ad 0 0)) cx fk_X8_10 dX8_count_141 0 0 rfl rfl rfl ?_
  refine b_get (v := .int (X0 5 6)) cx fk_X8_119 dX8_count_144 1 0 rfl rfl rfl ?_
  refine g_if_eq cx 154 dX8_count_147 (by decide) (fun hw1 => ?_) (fun hw1 => ?_)
  · skip
    refine g_iconst (v := 0) cx dX8_count_154 (by decide) ?_
    exact hret _ _ _ _ dX8_count_155 (rfl) (⟨(hw1).symm, rfl⟩)
  · skip
    refine g_iconst (v := 1) cx dX8_count_150 (by decide) ?_
    refine g_goto cx 155 dX8_count_151 (by decide) ?_
    exact hret _ _ _ _ dX8_count_155 (rfl) (⟨((hbR.2.2).resolve_left hw1).symm, rfl⟩)
