def rm_X8_would_bad : Room := { frames := 0, cells := 0, slots := 0, locals := 0 }
set_option maxRecDepth 100000 in
set_option maxHeartbeats 4000000 in
theorem c_X8_would_bad (V : VT) (ad : Nat → Nat → Nat) (X0 X1 X2 X3 X4 : S2) (Hs : Nat → S2) (L : Nat → Int32) (z : Nat) (b c d u lt sv : Int32) (A B : S2) (x s : Nat) (kp : Nat → Int32) (U Y : S2) (n o m k : Nat) (hC : okC X0 X3 X4 Hs z x s n o m k U) (l : Int32) (hb : ¬ (¬ l < 0 ∧ l < 6)) : CI V yX8_would cX8_would 2 .int rm_X8_would_bad [.ref (ad 12 6), .int l] ((List.flatten [wMain ad, wRing V (ad 0) X0, wRing V (ad 1) X1, wRing V (ad 2) X2, wTx V (ad 11) L (nI z) b c d u, wRd (ad 12 0) (ad 11 0) lt, wSd (ad 12 1) (ad 13 0) (ad 14 0) sv, wCopy V (ad 13) A, wCopy V (ad 14) B, wHi (ad 12 2) (ad 12 3) (nI x) (nI s), wRs V (ad 12 3) 6 (fun j_ => ad (5 + j_) 0), wRing V (ad 5) (Hs 0), wRing V (ad 6) (Hs 1), wRing V (ad 7) (Hs 2), wRing V (ad 8) (Hs 3), wRing V (ad 9) (Hs 4), wRing V (ad 10) (Hs 5), wRs V (ad 12 4) 2 (fun j_ => ad (3 + j_) 0), wRing V (ad 3) X3, wRing V (ad 4) X4, wKz V (ad 12 5) kp, wSight V (ad 15) U, wSusp V (ad 16) Y])) (fun r_ w_ => r_ = (-1) ∧ w_ = (List.flatten [wMain ad, wRing V (ad 0) X0, wRing V (ad 1) X1, wRing V (ad 2) X2, wTx V (ad 11) L (nI z) b c d u, wRd (ad 12 0) (ad 11 0) lt, wSd (ad 12 1) (ad 13 0) (ad 14 0) sv, wCopy V (ad 13) A, wCopy V (ad 14) B, wHi (ad 12 2) (ad 12 3) (nI x) (nI s), wRs V (ad 12 3) 6 (fun j_ => ad (5 + j_) 0), wRing V (ad 5) (Hs 0), wRing V (ad 6) (Hs 1), wRing V (ad 7) (Hs 2), wRing V (ad 8) (Hs 3), wRing V (ad 9) (Hs 4), wRing V (ad 10) (Hs 5), wRs V (ad 12 4) 2 (fun j_ => ad (3 + j_) 0), wRing V (ad 3) X3, wRing V (ad 4) X4, wKz V (ad 12 5) kp, wSight V (ad 15) U, wSusp V (ad 16) Y])) := by
  refine CI_intro (by decide) (Nat.le_of_ble_eq_true rfl) (fun K cx hret => ?_)
  show G V K 2 0 0 ((List.flatten [wMain ad, wRing V (ad 0) X0, wRing V (ad 1) X1, wRing V (ad 2) X2, wTx V (ad 11) L (nI z) b c d u, wRd (ad 12 0) (ad 11 0) lt, wSd (ad 12 1) (ad 13 0) (ad 14 0) sv, wCopy V (ad 13) A, wCopy V (ad 14) B, wHi (ad 12 2) (ad 12 3) (nI x) (nI s), wRs V (ad 12 3) 6 (fun j_ => ad (5 + j_) 0), wRing V (ad 5) (Hs 0), wRing V (ad 6) (Hs 1), wRing V (ad 7) (Hs 2), wRing V (ad 8) (Hs 3), wRing V (ad 9) (Hs 4), wRing V (ad 10) (Hs 5), wRs V (ad 12 4) 2 (fun j_ => ad (3 + j_) 0), wRing V (ad 3) X3, wRing V (ad 4) X4, wKz V (ad 12 5) kp, wSight V (ad 15) U, wSusp V (ad 16) Y])) 0 [(0, .ref (ad 12 6)), (1, .int l)] []
  have hC0 := hC
  obtain ⟨hz, hx, hs, hn, hn6, hn1, ho, ho4, hm, hm7, hat, hbR, hbH, hbI, hk, hk6, hU⟩ := hC0
  refine g_iload_n (v := l) cx dX8_would_0 rfl ?_
  refine g_if_lt cx 10 dX8_would_1 (by decide) (fun hw1 => ?_) (fun hw1 => ?_)
  · skip
    refine g_iconst (v := (-1)) cx dX8_would_10 (by decide) ?_
    exact hret _ _ _ _ dX8_would_11 (rfl) ⟨rfl, rfl⟩
  · skip
    refine g_iload_n (v := l) cx dX8_would_4 rfl ?_
    refine g_bipush (v := 6) cx dX8_would_5 (by decide) ?_
    refine g_icmp_lt cx 12 dX8_would_7 (by decide) (fun hw2 => ?_) (fun hw2 => ?_)
    · skip
      exact absurd ⟨hw1, hw2⟩ hb
    · skip
      refine g_iconst (v := (-1)) cx dX8_would_10 (by decide) ?_
      exact hret _ _ _ _ dX8_would_11 (rfl) ⟨rfl, rfl⟩
def rm_X8_would_ok : Room := { frames := 5, cells := 0, slots := 0, locals := 118 }
set_option maxRecDepth 100000 in
set_option maxHeartbeats 4000000 in
theorem c_X8_would_ok (V : VT) (ad : Nat → Nat → Nat) (X0 X1 X2 X3 X4 : S2) (Hs : Nat → S2) (L : Nat → Int32) (z : Nat) (b c d u lt sv : Int32) (A B : S2) (x s : Nat) (kp : Nat → Int32) (U Y : S2) (n o m k : Nat) (hC : okC X0 X3 X4 Hs z x s n o m k U) (l : Int32) (q : Nat) (W : S2 × S2 × S2 × Int32) (hW : snd sv (rCopy X2 X0) A B n o m = W) (hl : l = nI q) (hq : q < 6) : CI V yX8_would cX8_would 2 .int rm_X8_would_ok [.ref (ad 12 6), .int l] ((List.flatten [wMain ad, wRing V (ad 0) X0, wRing V (ad 1) X1, wRing V (ad 2) X2, wTx V (ad 11) L (nI z) b c d u, wRd (ad 12 0) (ad 11 0) lt, wSd (ad 12 1) (ad 13 0) (ad 14 0) sv, wCopy V (ad 13) A, wCopy V (ad 14) B, wHi (ad 12 2) (ad 12 3) (nI x) (nI s), wRs V (ad 12 3) 6 (fun j_ => ad (5 + j_) 0), wRing V (ad 5) (Hs 0), wRing V (ad 6) (Hs 1), wRing V (ad 7) (Hs 2), wRing V (ad 8) (Hs 3), wRing V (ad 9) (Hs 4), wRing V (ad 10) (Hs 5), wRs V (ad 12 4) 2 (fun j_ => ad (3 + j_) 0), wRing V (ad 3) X3, wRing V (ad 4) X4, wKz V (ad 12 5) kp, wSight V (ad 15) U, wSusp V (ad 16) Y])) (fun r_ w_ => r_ = rLook W.2.2.1 o q ∧ w_ = (List.flatten [wMain ad, wRing V (ad 0) X0, wRing V (ad 1) X1, wRing V (ad 2) W.2.2.1, wTx V (ad 11) L (nI z) b c d u, wRd (ad 12 0) (ad 11 0) lt, wSd (ad 12 1) (ad 13 0) (ad 14 0) W.2.2.2, wCopy V (ad 13) W.1, wCopy V (ad 14) W.2.1, wHi (ad 12 2) (ad 12 3) (nI x) (nI s), wRs V (ad 12 3) 6 (fun j_ => ad (5 + j_) 0), wRing V (ad 5) (Hs 0), wRing V (ad 6) (Hs 1), wRing V (ad 7) (Hs 2), wRing V (ad 8) (Hs 3), wRing V (ad 9) (Hs 4), wRing V (ad 10) (Hs 5), wRs V (ad 12 4) 2 (fun j_ => ad (3 + j_) 0), wRing V (ad 3) X3, wRing V (ad 4) X4, wKz V (ad 12 5) kp, wSight V (ad 15) U, wSusp V (ad 16) Y])) := by
  refine CI_intro (by decide) (Nat.le_of_ble_eq_true rfl) (fun K cx hret => ?_)
  show G V K 2 0 0 ((List.flatten [wMain ad, wRing V (ad 0) X0, wRing V (ad 1) X1, wRing V (ad 2) X2, wTx V (ad 11) L (nI z) b c d u, wRd (ad 12 0) (ad 11 0) lt, wSd (ad 12 1) (ad 13 0) (ad 14 0) sv, wCopy V (ad 13) A, wCopy V (ad 14) B, wHi (ad 12 2) (ad 12 3) (nI x) (nI s), wRs V (ad 12 3) 6 (fun j_ => ad (5 + j_) 0), wRing V (ad 5) (Hs 0), wRing V (ad 6) (Hs 1), wRing V (ad 7) (Hs 2), wRing V (ad 8) (Hs 3), wRing V (ad 9) (Hs 4), wRing V (ad 10) (Hs 5), wRs V (ad 12 4) 2 (fun j_ => ad (3 + j_) 0), wRing V (ad 3) X3, wRing V (ad 4) X4, wKz V (ad 12 5) kp, wSight V (ad 15) U, wSusp V (ad 16) Y])) 0 [(0, .ref (ad 12 6)), (1, .int l)] []
  have hC0 := hC
  obtain ⟨hz, hx, hs, hn, hn6, hn1, ho, ho4, hm, hm7, hat, hbR, hbH, hbI, hk, hk6, hU⟩ := hC0
  refine g_iload_n (v := l) cx dX8_would_0 rfl ?_
  refine g_if_lt cx 10 dX8_would_1 (by decide) (fun hw1 => absurd hw1 (rf_ltMN hl (nl 0) (by omega) (by omega) (by omega))) (fun hw1 => ?_)
  refine g_iload_n (v := l) cx dX8_would_4 rfl ?_
  refine g_bipush (v := 6) cx dX8_would_5 (by decide) ?_
  refine g_icmp_lt cx 12 dX8_would_7 (by decide) (fun hw2 => ?_) (fun hw2 => absurd (rf_ltMP hl (nl 6) (by omega) (by omega) (by omega)) hw2)
  refine g_aload_n (v := ad 12 6) cx dX8_would_12 rfl ?_
  refine g_bipush (v := (-9)) cx dX8_would_13 (by decide) ?_
  refine w_callv (ws' := (List.flatten [wMain ad, wRing V (ad 0) X0, wRing V (ad 1) X1, wRing V (ad 2) ((snd sv (rCopy X2 X0) A B n o m).2.2.1), wTx V (ad 11) L (nI z) b c d u, wRd (ad 12 0) (ad 11 0) lt, wSd (ad 12 1) (ad 13 0) (ad 14 0) ((snd sv (rCopy X2 X0) A B n o m).2.2.2), wCopy V (ad 13) ((snd sv (rCopy X2 X0) A B n o m).1), wCopy V (ad 14) ((snd sv (rCopy X2 X0) A B n o m).2.1), wHi (ad 12 2) (ad 12 3) (nI x) (nI s), wRs V (ad 12 3) 6 (fun j_ => ad (5 + j_) 0), wRing V (ad 5) (Hs 0), wRing V (ad 6) (Hs 1), wRing V (ad 7) (Hs 2), wRing V (ad 8) (Hs 3), wRing V (ad 9) (Hs 4), wRing V (ad 10) (Hs 5), wRs V (ad 12 4) 2 (fun j_ => ad (3 + j_) 0), wRing V (ad 3) X3, wRing V (ad 4) X4, wKz V (ad 12 5) kp, wSight V (ad 15) U, wSusp V (ad 16) Y])) (As := [.int (-9)]) (rest := []) cx (c_X8_sendTrial_none V ad X0 X1 X2 X3 X4 Hs L z b c d u lt sv A B x s kp U Y n o m k hC) ml_X8_191 dX8_would_15 (q0 := 0) rfl rfl rfl rfl rfl (Nat.le_of_ble_eq_true rfl) ⟨Nat.le_of_ble_eq_true rfl, Nat.le_of_ble_eq_true rfl⟩ ⟨Nat.le_refl _, Nat.le_refl _⟩ ?_
  rw [hW]
  have hoW : W.2.2.1 5 1 = nI o := by rw [← hW, snd_5 (by decide)]; exact ho
  refine g_aload_n (v := ad 12 6) cx dX8_would_18 rfl ?_
  refine b_get (v := .ref (ad 2 0)) cx fk_X8_19 dX8_would_19 0 0 rfl rfl rfl ?_
  refine g_iload_n (v := l) cx dX8_would_22 rfl ?_
  refine b_calli (r0 := rLook W.2.2.1 o q) (Ws' := [wMain ad, wRing V (ad 0) X0, wRing V (ad 1) X1, wRing V (ad 2) W.2.2.1, wTx V (ad 11) L (nI z) b c d u, wRd (ad 12 0) (ad 11 0) lt, wSd (ad 12 1) (ad 13 0) (ad 14 0) W.2.2.2, wCopy V (ad 13) W.1, wCopy V (ad 14) W.2.1, wHi (ad 12 2) (ad 12 3) (nI x) (nI s), wRs V (ad 12 3) 6 (fun j_ => ad (5 + j_) 0), wRing V (ad 5) (Hs 0), wRing V (ad 6) (Hs 1), wRing V (ad 7) (Hs 2), wRing V (ad 8) (Hs 3), wRing V (ad 9) (Hs 4), wRing V (ad 10) (Hs 5), wRs V (ad 12 4) 2 (fun j_ => ad (3 + j_) 0), wRing V (ad 3) X3, wRing V (ad 4) X4, wKz V (ad 12 5) kp, wSight V (ad 15) U, wSusp V (ad 16) Y]) (wcs := [wRing V (ad 2) W.2.2.1]) (wos := [wRing V (ad 2) W.2.2.1]) (As := [.int l]) (rest := []) cx (c_X3_look V (ad 2) W.2.2.1 l q o hl (by omega) hoW (by omega)) ml_X8_194 dX8_would_23 [3] rfl rfl (List.append_nil _) (List.append_nil _) [[ad 2 0, ad 2 1, ad 2 2, ad 2 3, ad 2 4, ad 2 5]] rfl rfl rfl 0 0 3 rfl rfl rfl rfl rfl rfl (Nat.le_of_ble_eq_true rfl) ⟨Nat.le_of_ble_eq_true rfl, Nat.le_of_ble_eq_true rfl⟩ ⟨Nat.le_refl _, Nat.le_refl _⟩ ?_
  exact hret _ _ _ _ dX8_would_26 (rfl) ⟨rfl, rfl⟩
def rm_X8_which_bad : Room := { frames := 0, cells := 0, slots := 0, locals := 0 }
set_option maxRecDepth 100000 in
set_option maxHeartbeats 4000000 in
theorem c_X8_which_bad (V : VT) (ad : Nat → Nat → Nat) (X0 X1 X2 X3 X4 : S2) (Hs : Nat → S2) (L : Nat → Int32) (z : Nat) (b c d u lt sv : Int32) (A B : S2) (x s : Nat) (kp : Nat → Int32) (U Y : S2) (n o m k : Nat) (hC : okC X0 X3 X4 Hs z x s n o m k U) (l : Int32) (hb : ¬ (¬ l < 0 ∧ l ≤ 2)) : CI V yX8_which cX8_which 2 .int rm_X8_which_bad [.ref (ad 12 6), .int l] ((List.flatten [wMain ad, wRing V (ad 0) X0, wRing V (ad 1) X1, wRing V (ad 2) X2, wTx V (ad 11) L (nI z) b c d u, wRd (ad 12 0) (ad 11 0) lt, wSd (ad 12 1) (ad 13 0) (ad 14 0) sv, wCopy V (ad 13) A, wCopy V (ad 14) B, wHi (ad 12 2) (ad 12 3) (nI x) (nI s), wRs V (ad 12 3) 6 (fun j_ => ad (5 + j_) 0), wRing V (ad 5) (Hs 0), wRing V (ad 6) (Hs 1), wRing V (ad 7) (Hs 2), wRing V (ad 8) (Hs 3), wRing V (ad 9) (Hs 4), wRing V (ad 10) (Hs 5), wRs V (ad 12 4) 2 (fun j_ => ad (3 + j_) 0), wRing V (ad 3) X3, wRing V (ad 4) X4, wKz V (ad 12 5) kp, wSight V (ad 15) U, wSusp V (ad 16) Y])) (fun r_ w_ => r_ = (-1) ∧ w_ = (List.flatten [wMain ad, wRing V (ad 0) X0, wRing V (ad 1) X1, wRing V (ad 2) X2, wTx V (ad 11) L (nI z) b c d u, wRd (ad 12 0) (ad 11 0) lt, wSd (ad 12 1) (ad 13 0) (ad 14 0) sv, wCopy V (ad 13) A, wCopy V (ad 14) B, wHi (ad 12 2) (ad 12 3) (nI x) (nI s), wRs V (ad 12 3) 6 (fun j_ => ad (5 + j_) 0), wRing V (ad 5) (Hs 0), wRing V (ad 6) (Hs 1), wRing V (ad 7) (Hs 2), wRing V (ad 8) (Hs 3), wRing V (ad 9) (Hs 4), wRing V (ad 10) (Hs 5), wRs V (ad 12 4) 2 (fun j_ => ad (3 + j_) 0), wRing V (ad 3) X3, wRing V (ad 4) X4, wKz V (ad 12 5) kp, wSight V (ad 15) U, wSusp V (ad 16) Y])) := by
  refine CI_intro (by decide) (Nat.le_of_ble_eq_true rfl) (fun K cx hret => ?_)
  show G V K 2 0 0 ((List.flatten [wMain ad, wRing V (ad 0) X0, wRing V (ad 1) X1, wRing V (ad 2) X2, wTx V (ad 11) L (nI z) b c d u, wRd (ad 12 0) (ad 11 0) lt, wSd (ad 12 1) (ad 13 0) (ad 14 0) sv, wCopy V (ad 13) A, wCopy V (ad 14) B, wHi (ad 12 2) (ad 12 3) (nI x) (nI s), wRs V (ad 12 3) 6 (fun j_ => ad (5 + j_) 0), wRing V (ad 5) (Hs 0), wRing V (ad 6) (Hs 1), wRing V (ad 7) (Hs 2), wRing V (ad 8) (Hs 3), wRing V (ad 9) (Hs 4), wRing V (ad 10) (Hs 5), wRs V (ad 12 4) 2 (fun j_ => ad (3 + j_) 0), wRing V (ad 3) X3, wRing V (ad 4) X4, wKz V (ad 12 5) kp, wSight V (ad 15) U, wSusp V (ad 16) Y])) 0 [(0, .ref (ad 12 6)), (1, .int l)] []
  have hC0 := hC
  obtain ⟨hz, hx, hs, hn, hn6, hn1, ho, ho4, hm, hm7, hat, hbR, hbH, hbI, hk, hk6, hU⟩ := hC0
  refine g_iload_n (v := l) cx dX8_which_0 rfl ?_
  refine g_if_lt cx 9 dX8_which_1 (by decide) (fun hw1 => ?_) (fun hw1 => ?_)
  · skip
    refine g_iconst (v := (-1)) cx dX8_which_9 (by decide) ?_
    exact hret _ _ _ _ dX8_which_10 (rfl) ⟨rfl, rfl⟩
  · skip
    refine g_iload_n (v := l) cx dX8_which_4 rfl ?_
    refine g_iconst (v := 2) cx dX8_which_5 (by decide) ?_
    refine g_icmp_le cx 11 dX8_which_6 (by decide) (fun hw2 => ?_) (fun hw2 => ?_)
    · skip
      exact absurd ⟨hw1, hw2⟩ hb
    · skip
      refine g_iconst (v := (-1)) cx dX8_which_9 (by decide) ?_
      exact hret _ _ _ _ dX8_which_10 (rfl) ⟨rfl, rfl⟩
def rm_X8_which_two : Room := { frames := 5, cells := 0, slots := 0, locals := 118 }
set_option maxRecDepth 100000 in
set_option maxHeartbeats 4000000 in
theorem c_X8_which_two (V : VT) (ad : Nat → Nat → Nat) (X0 X1 X2 X3 X4 : S2) (Hs : Nat → S2) (L : Nat → Int32) (z : Nat) (b c d u lt sv : Int32) (A B : S2) (x s : Nat) (kp : Nat → Int32) (U Y : S2) (n o m k : Nat) (hC : okC X0 X3 X4 Hs z x s n o m k U) (l : Int32) (W : S2 × S2 × S2 × Int32) (hW : snd sv (rCopy X2 X0) A B n o m = W) (hl : l = nI 2) : CI V yX8_which cX8_which 2 .int rm_X8_which_two [.ref (ad 12 6), .int l] ((List.flatten [wMain ad, wRing V (ad 0) X0, wRing V (ad 1) X1, wRing V (ad 2) X2, wTx V (ad 11) L (nI z) b c d u, wRd (ad 12 0) (ad 11 0) lt, wSd (ad 12 1) (ad 13 0) (ad 14 0) sv, wCopy V (ad 13) A, wCopy V (ad 14) B, wHi (ad 12 2) (ad 12 3) (nI x) (nI s), wRs V (ad 12 3) 6 (fun j_ => ad (5 + j_) 0), wRing V (ad 5) (Hs 0), wRing V (ad 6) (Hs 1), wRing V (ad 7) (Hs 2), wRing V (ad 8) (Hs 3), wRing V (ad 9) (Hs 4), wRing V (ad 10) (Hs 5), wRs V (ad 12 4) 2 (fun j_ => ad (3 + j_) 0), wRing V (ad 3) X3, wRing V (ad 4) X4, wKz V (ad 12 5) kp, wSight V (ad 15) U, wSusp V (ad 16) Y])) (fun r_ w_ => r_ = bI (uAg U W.2.2.1 o k) ∧ w_ = (List.flatten [wMain ad, wRing V (ad 0) X0, wRing V (ad 1) X1, wRing V (ad 2) W.2.2.1, wTx V (ad 11) L (nI z) b c d u, wRd (ad 12 0) (ad 11 0) lt, wSd (ad 12 1) (ad 13 0) (ad 14 0) W.2.2.2, wCopy V (ad 13) W.1, wCopy V (ad 14) W.2.1, wHi (ad 12 2) (ad 12 3) (nI x) (nI s), wRs V (ad 12 3) 6 (fun j_ => ad (5 + j_) 0), wRing V (ad 5) (Hs 0), wRing V (ad 6) (Hs 1), wRing V (ad 7) (Hs 2), wRing V (ad 8) (Hs 3), wRing V (ad 9) (Hs 4), wRing V (ad 10) (Hs 5), wRs V (ad 12 4) 2 (fun j_ => ad (3 + j_) 0), wRing V (ad 3) X3, wRing V (ad 4) X4, wKz V (ad 12 5) kp, wSight V (ad 15) U, wSusp V (ad 16) Y])) := by
  refine CI_intro (by decide) (Nat.le_of_ble_eq_true rfl) (fun K cx hret => ?_)
  show G V K 2 0 0 ((List.flatten [wMain ad, wRing V (ad 0) X0, wRing V (ad 1) X1, wRing V (ad 2) X2, wTx V (ad 11) L (nI z) b c d u, wRd (ad 12 0) (ad 11 0) lt, wSd (ad 12 1) (ad 13 0) (ad 14 0) sv, wCopy V (ad 13) A, wCopy V (ad 14) B, wHi (ad 12 2) (ad 12 3) (nI x) (nI s), wRs V (ad 12 3) 6 (fun j_ => ad (5 + j_) 0), wRing V (ad 5) (Hs 0), wRing V (ad 6) (Hs 1), wRing V (ad 7) (Hs 2), wRing V (ad 8) (Hs 3), wRing V (ad 9) (Hs 4), wRing V (ad 10) (Hs 5), wRs V (ad 12 4) 2 (fun j_ => ad (3 + j_) 0), wRing V (ad 3) X3, wRing V (ad 4) X4, wKz V (ad 12 5) kp, wSight V (ad 15) U, wSusp V (ad 16) Y])) 0 [(0, .ref (ad 12 6)), (1, .int l)] []
  have hC0 := hC
  obtain ⟨hz, hx, hs, hn, hn6, hn1, ho, ho4, hm, hm7, hat, hbR, hbH, hbI, hk, hk6, hU⟩ := hC0
  refine g_iload_n (v := l) cx dX8_which_0 rfl ?_
  refine g_if_lt cx 9 dX8_which_1 (by decide) (fun hw1 => absurd hw1 (rf_ltMN hl (nl 0) (by omega) (by omega) (by omega))) (fun hw1 => ?_)
  refine g_iload_n (v := l) cx dX8_which_4 rfl ?_
  refine g_iconst (v := 2) cx dX8_which_5 (by decide) ?_
  refine g_icmp_le cx 11 dX8_which_6 (by decide) (fun hw2 => ?_) (fun hw2 => absurd (rf_leMP hl (nl 2) (by omega) (by omega) (by omega)) hw2)
  refine g_iload_n (v := l) cx dX8_which_11 rfl ?_
  refine g_iconst (v := 2) cx dX8_which_12 (by decide) ?_
  refine g_icmp_ne cx 42 dX8_which_13 (by decide) (fun hw3 => absurd (rf_eqMP hl (nl 2) (by omega) (by omega) (by omega)) hw3) (fun hw3 => ?_)
  refine g_aload_n (v := ad 12 6) cx dX8_which_16 rfl ?_
  refine g_bipush (v := (-9)) cx dX8_which_17 (by decide) ?_
  refine w_callv (ws' := (List.flatten [wMain ad, wRing V (ad 0) X0, wRing V (ad 1) X1, wRing V (ad 2) ((snd sv (rCopy X2 X0) A B n o m).2.2.1), wTx V (ad 11) L (nI z) b c d u, wRd (ad 12 0) (ad 11 0) lt, wSd (ad 12 1) (ad 13 0) (ad 14 0) ((snd sv (rCopy X2 X0) A B n o m).2.2.2), wCopy V (ad 13) ((snd sv (rCopy X2 X0) A B n o m).1), wCopy V (ad 14) ((snd sv (rCopy X2 X0) A B n o m).2.1), wHi (ad 12 2) (ad 12 3) (nI x) (nI s), wRs V (ad 12 3) 6 (fun j_ => ad (5 + j_) 0), wRing V (ad 5) (Hs 0), wRing V (ad 6) (Hs 1), wRing V (ad 7) (Hs 2), wRing V (ad 8) (Hs 3), wRing V (ad 9) (Hs 4), wRing V (ad 10) (Hs 5), wRs V (ad 12 4) 2 (fun j_ => ad (3 + j_) 0), wRing V (ad 3) X3, wRing V (ad 4) X4, wKz V (ad 12 5) kp, wSight V (ad 15) U, wSusp V (ad 16) Y])) (As := [.int (-9)]) (rest := []) cx (c_X8_sendTrial_none V ad X0 X1 X2 X3 X4 Hs L z b c d u lt sv A B x s kp U Y n o m k hC) ml_X8_191 dX8_which_19 (q0 := 0) rfl rfl rfl rfl rfl (Nat.le_of_ble_eq_true rfl) ⟨Nat.le_of_ble_eq_true rfl, Nat.le_of_ble_eq_true rfl⟩ ⟨Nat.le_refl _, Nat.le_refl _⟩ ?_
  rw [hW]
  have hoW : W.2.2.1 5 1 = nI o := by rw [← hW, snd_5 (by decide)]; exact ho
  refine g_aload_n (v := ad 12 6) cx dX8_which_22 rfl ?_
  refine b_get (v := .ref (ad 15 0)) cx fk_X8_63 dX8_which_23 0 0 rfl rfl rfl ?_
  refine g_aload_n (v := ad 12 6) cx dX8_which_26 rfl ?_
  refine b_get (v := .ref (ad 2 0)) cx fk_X8_19 dX8_which_27 0 0 rfl rfl rfl ?_
  refine b_calli (r0 := bI (uAg U W.2.2.1 o k)) (Ws' := [wMain ad, wRing V (ad 0) X0, wRing V (ad 1) X1, wRing V (ad 2) W.2.2.1, wTx V (ad 11) L (nI z) b c d u, wRd (ad 12 0) (ad 11 0) lt, wSd (ad 12 1) (ad 13 0) (ad 14 0) W.2.2.2, wCopy V (ad 13) W.1, wCopy V (ad 14) W.2.1, wHi (ad 12 2) (ad 12 3) (nI x) (nI s), wRs V (ad 12 3) 6 (fun j_ => ad (5 + j_) 0), wRing V (ad 5) (Hs 0), wRing V (ad 6) (Hs 1), wRing V (ad 7) (Hs 2), wRing V (ad 8) (Hs 3), wRing V (ad 9) (Hs 4), wRing V (ad 10) (Hs 5), wRs V (ad 12 4) 2 (fun j_ => ad (3 + j_) 0), wRing V (ad 3) X3, wRing V (ad 4) X4, wKz V (ad 12 5) kp, wSight V (ad 15) U, wSusp V (ad 16) Y]) (wcs := [wSight V (ad 15) U, wRing V (ad 2) W.2.2.1]) (wos := [wSight V (ad 15) U, wRing V (ad 2) W.2.2.1]) (As := [.ref (ad 2 0)]) (rest := []) cx (c_X5_agreeWith V (ad 15) U (ad 2) W.2.2.1 k hk hk6 hU o hoW ho4) ml_X8_204 dX8_which_30 [21, 3] rfl rfl (by simp only [List.flatten_cons, List.flatten_nil, List.append_nil, List.append_assoc]) (by simp only [List.flatten_cons, List.flatten_nil, List.append_nil, List.append_assoc]) [[ad 15 0, ad 15 1, ad 15 2], [ad 2 0, ad 2 1, ad 2 2, ad 2 3, ad 2 4, ad 2 5]] rfl rfl rfl 0 0 5 rfl rfl rfl rfl rfl rfl (Nat.le_of_ble_eq_true rfl) ⟨Nat.le_of_ble_eq_true rfl, Nat.le_of_ble_eq_true rfl⟩ ⟨Nat.le_refl _, Nat.le_refl _⟩ ?_
  refine g_if_eq_b cx 40 dX8_which_33 (by decide) (fun hw4 => ?_) (fun hw4 => ?_)
  · skip
    refine g_iconst (v := 0) cx dX8_which_40 (by decide) ?_
    exact hret _ _ _ _ dX8_which_41 (rfl) (⟨bI_f hw4, rfl⟩)
  · skip
    refine g_iconst (v := 1) cx dX8_which_36 (by decide) ?_
    refine g_goto cx 41 dX8_which_37 (by decide) ?_
    exact hret _ _ _ _ dX8_which_41 (rfl) (⟨bI_t hw4, rfl⟩)
def rm_X8_findSuspects_all : Room := { frames := 5, cells := 0, slots := 0, locals := 118 }
set_option maxRecDepth 100000 in
set_option maxHeartbeats 4000000 in
theorem c_X8_findSuspects_all (V : VT) (ad : Nat → Nat → Nat) (X0 X1 X2 X3 X4 : S2) (Hs : Nat → S2) (L : Nat → Int32) (z : Nat) (b c d u lt sv : Int32) (A B : S2) (x s : Nat) (kp : Nat → Int32) (U Y : S2) (n o m k : Nat) (hC : okC X0 X3 X4 Hs z x s n o m k U)   : CV V yX8_findSuspects cX8_findSuspects 3 rm_X8_findSuspects_all [.ref (ad 12 6)] ((List.flatten [wMain ad, wRing V (ad 0) X0, wRing V (ad 1) X1, wRing V (ad 2) X2, wTx V (ad 11) L (nI z) b c d u, wRd (ad 12 0) (ad 11 0) lt, wSd (ad 12 1) (ad 13 0) (ad 14 0) sv, wCopy V (ad 13) A, wCopy V (ad 14) B, wHi (ad 12 2) (ad 12 3) (nI x) (nI s), wRs V (ad 12 3) 6 (fun j_ => ad (5 + j_) 0), wRing V (ad 5) (Hs 0), wRing V (ad 6) (Hs 1), wRing V (ad 7) (Hs 2), wRing V (ad 8) (Hs 3), wRing V (ad 9) (Hs 4), wRing V (ad 10) (Hs 5), wRs V (ad 12 4) 2 (fun j_ => ad (3 + j_) 0), wRing V (ad 3) X3, wRing V (ad 4) X4, wKz V (ad 12 5) kp, wSight V (ad 15) U, wSusp V (ad 16) Y])) (fun w_ => w_ = (List.flatten [wMain ad, wRing V (ad 0) X0, wRing V (ad 1) X1, wRing V (ad 2) ((fsN X0 U n o m k m (X2, A, B, sv, u2 Y 2 0 0)).1), wTx V (ad 11) L (nI z) b c d u, wRd (ad 12 0) (ad 11 0) lt, wSd (ad 12 1) (ad 13 0) (ad 14 0) ((fsN X0 U n o m k m (X2, A, B, sv, u2 Y 2 0 0)).2.2.2.1), wCopy V (ad 13) ((fsN X0 U n o m k m (X2, A, B, sv, u2 Y 2 0 0)).2.1), wCopy V (ad 14) ((fsN X0 U n o m k m (X2, A, B, sv, u2 Y 2 0 0)).2.2.1), wHi (ad 12 2) (ad 12 3) (nI x) (nI s), wRs V (ad 12 3) 6 (fun j_ => ad (5 + j_) 0), wRing V (ad 5) (Hs 0), wRing V (ad 6) (Hs 1), wRing V (ad 7) (Hs 2), wRing V (ad 8) (Hs 3), wRing V (ad 9) (Hs 4), wRing V (ad 10) (Hs 5), wRs V (ad 12 4) 2 (fun j_ => ad (3 + j_) 0), wRing V (ad 3) X3, wRing V (ad 4) X4, wKz V (ad 12 5) kp, wSight V (ad 15) U, wSusp V (ad 16) ((fsN X0 U n o m k m (X2, A, B, sv, u2 Y 2 0 0)).2.2.2.2)])) := by
  refine CV_intro (by decide) (Nat.le_of_ble_eq_true rfl) (fun K cx hci hret => ?_)
  show G V K 3 0 0 ((List.flatten [wMain ad, wRing V (ad 0) X0, wRing V (ad 1) X1, wRing V (ad 2) X2, wTx V (ad 11) L (nI z) b c d u, wRd (ad 12 0) (ad 11 0) lt, wSd (ad 12 1) (ad 13 0) (ad 14 0) sv, wCopy V (ad 13) A, wCopy V (ad 14) B, wHi (ad 12 2) (ad 12 3) (nI x) (nI s), wRs V (ad 12 3) 6 (fun j_ => ad (5 + j_) 0), wRing V (ad 5) (Hs 0), wRing V (ad 6) (Hs 1), wRing V (ad 7) (Hs 2), wRing V (ad 8) (Hs 3), wRing V (ad 9) (Hs 4), wRing V (ad 10) (Hs 5), wRs V (ad 12 4) 2 (fun j_ => ad (3 + j_) 0), wRing V (ad 3) X3, wRing V (ad 4) X4, wKz V (ad 12 5) kp, wSight V (ad 15) U, wSusp V (ad 16) Y])) 0 [(0, .ref (ad 12 6))] []
  have hC0 := hC
  obtain ⟨hz, hx, hs, hn, hn6, hn1, ho, ho4, hm, hm7, hat, hbR, hbH, hbI, hk, hk6, hU⟩ := hC0
  refine g_aload_n (v := ad 12 6) cx dX8_findSuspects_0 rfl ?_
  refine b_get (v := .ref (ad 16 0)) cx fk_X8_70 dX8_findSuspects_1 0 0 rfl rfl rfl ?_
  refine g_iconst (v := 0) cx dX8_findSuspects_4 (by decide) ?_
  refine b_put (blk' := wSusp V (ad 16) (u2 Y 2 0 0)) (Ws' := [wMain ad, wRing V (ad 0) X0, wRing V (ad 1) X1, wRing V (ad 2) X2, wTx V (ad 11) L (nI z) b c d u, wRd (ad 12 0) (ad 11 0) lt, wSd (ad 12 1) (ad 13 0) (ad 14 0) sv, wCopy V (ad 13) A, wCopy V (ad 14) B, wHi (ad 12 2) (ad 12 3) (nI x) (nI s), wRs V (ad 12 3) 6 (fun j_ => ad (5 + j_) 0), wRing V (ad 5) (Hs 0), wRing V (ad 6) (Hs 1), wRing V (ad 7) (Hs 2), wRing V (ad 8) (Hs 3), wRing V (ad 9) (Hs 4), wRing V (ad 10) (Hs 5), wRs V (ad 12 4) 2 (fun j_ => ad (3 + j_) 0), wRing V (ad 3) X3, wRing V (ad 4) X4, wKz V (ad 12 5) kp, wSight V (ad 15) U, wSusp V (ad 16) (u2 Y 2 0 0)]) cx fk_X8_210 dX8_findSuspects_5 22 0 rfl rfl (rfl) (rfl) (Nat.le_of_ble_eq_true rfl) rfl rfl ?_
  refine g_aload_n (v := ad 12 6) cx dX8_findSuspects_8 rfl ?_
  refine b_get (v := .ref (ad 0 0)) cx fk_X8_10 dX8_findSuspects_9 0 0 rfl rfl rfl ?_
  refine b_calli (r0 := rLinks X0) (Ws' := [wMain ad, wRing V (ad 0) X0, wRing V (ad 1) X1, wRing V (ad 2) X2, wTx V (ad 11) L (nI z) b c d u, wRd (ad 12 0) (ad 11 0) lt, wSd (ad 12 1) (ad 13 0) (ad 14 0) sv, wCopy V (ad 13) A, wCopy V (ad 14) B, wHi (ad 12 2) (ad 12 3) (nI x) (nI s), wRs V (ad 12 3) 6 (fun j_ => ad (5 + j_) 0), wRing V (ad 5) (Hs 0), wRing V (ad 6) (Hs 1), wRing V (ad 7) (Hs 2), wRing V (ad 8) (Hs 3), wRing V (ad 9) (Hs 4), wRing V (ad 10) (Hs 5), wRs V (ad 12 4) 2 (fun j_ => ad (3 + j_) 0), wRing V (ad 3) X3, wRing V (ad 4) X4, wKz V (ad 12 5) kp, wSight V (ad 15) U, wSusp V (ad 16) (u2 Y 2 0 0)]) (wcs := [wRing V (ad 0) X0]) (wos := [wRing V (ad 0) X0]) (As := []) (rest := []) cx (c_X3_links V (ad 0) X0) ml_X8_217 dX8_findSuspects_12 [1] rfl rfl (List.append_nil _) (List.append_nil _) [[ad 0 0, ad 0 1, ad 0 2, ad 0 3, ad 0 4, ad 0 5]] rfl rfl rfl 0 0 3 rfl rfl rfl rfl rfl rfl (Nat.le_of_ble_eq_true rfl) ⟨Nat.le_of_ble_eq_true rfl, Nat.le_of_ble_eq_true rfl⟩ ⟨Nat.le_refl _, Nat.le_refl _⟩ ?_
  refine g_istore_n (lv' := [(0, .ref (ad 12 6)), (1, .int (rLinks X0))]) cx dX8_findSuspects_15 (by decide) rfl ?_
  refine g_iconst (v := 0) cx dX8_findSuspects_16 (by decide) ?_
  refine g_istore_n (lv' := [(0, .ref (ad 12 6)), (1, .int (rLinks X0)), (2, .int 0)]) cx dX8_findSuspects_17 (by decide) rfl ?_
  refine rf_dn (P := fun i1 => G V K 3 0 0 ((List.flatten [wMain ad, wRing V (ad 0) X0, wRing V (ad 1) X1, wRing V (ad 2) ((fsN X0 U n o m k i1 (X2, A, B, sv, u2 Y 2 0 0)).1), wTx V (ad 11) L (nI z) b c d u, wRd (ad 12 0) (ad 11 0) lt, wSd (ad 12 1) (ad 13 0) (ad 14 0) ((fsN X0 U n o m k i1 (X2, A, B, sv, u2 Y 2 0 0)).2.2.2.1), wCopy V (ad 13) ((fsN X0 U n o m k i1 (X2, A, B, sv, u2 Y 2 0 0)).2.1), wCopy V (ad 14) ((fsN X0 U n o m k i1 (X2, A, B, sv, u2 Y 2 0 0)).2.2.1), wHi (ad 12 2) (ad 12 3) (nI x) (nI s), wRs V (ad 12 3) 6 (fun j_ => ad (5 + j_) 0), wRing V (ad 5) (Hs 0), wRing V (ad 6) (Hs 1), wRing V (ad 7) (Hs 2), wRing V (ad 8) (Hs 3), wRing V (ad 9) (Hs 4), wRing V (ad 10) (Hs 5), wRs V (ad 12 4) 2 (fun j_ => ad (3 + j_) 0), wRing V (ad 3) X3, wRing V (ad 4) X4, wKz V (ad 12 5) kp, wSight V (ad 15) U, wSusp V (ad 16) ((fsN X0 U n o m k i1 (X2, A, B, sv, u2 Y 2 0 0)).2.2.2.2)])) 18 [(0, .ref (ad 12 6)), (1, .int (rLinks X0)), (2, .int (nI i1))] []) (m) (fun i1 hi1 ihi1 => ?_) ?_
  · skip
    have e1 : fsN X0 U n o m k (i1 + 1) (X2, A, B, sv, u2 Y 2 0 0) = fsStep X0 U n o m k i1 (fsN X0 U n o m k i1 (X2, A, B, sv, u2 Y 2 0 0)) := rfl
    rw [e1] at ihi1
    clear e1
    have hY := fsN_y (R := X0) (U := U) (n := n) (o := o) (m := m) (k := k) (t := (X2, A, B, sv, u2 Y 2 0 0)) (okY_of (c := 0) rfl (by decide) (by decide)) i1 (by omega)
    generalize fsN X0 U n o m k i1 (X2, A, B, sv, u2 Y 2 0 0) = t1 at ihi1 hY ⊢
    obtain ⟨T1, A1, B1, v1, Y1⟩ := t1
    have hY : okY Y1 i1 := hY
    refine g_iload_n (v := nI i1) cx dX8_findSuspects_18 rfl ?_
    refine g_iload_n (v := rLinks X0) cx dX8_findSuspects_19 rfl ?_
    refine g_icmp_ge cx 71 dX8_findSuspects_20 (by decide) (fun hw1 => absurd hw1 (rf_geMN rfl hm (by omega) (by omega) (by omega))) (fun hw1 => ?_)
    refine g_aload_n (v := ad 12 6) cx dX8_findSuspects_23 rfl ?_
    refine b_get (v := .ref (ad 0 0)) cx fk_X8_10 dX8_findSuspects_24 0 0 rfl rfl rfl ?_
    refine g_iload_n (v := nI i1) cx dX8_findSuspects_27 rfl ?_
    refine b_calli (r0 := bI (X0 1 (i1 * 2 + 1) = 1)) (Ws' := [wMain ad, wRing V (ad 0) X0, wRing V (ad 1) X1, wRing V (ad 2) T1, wTx V (ad 11) L (nI z) b c d u, wRd (ad 12 0) (ad 11 0) lt, wSd (ad 12 1) (ad 13 0) (ad 14 0) v1, wCopy V (ad 13) A1, wCopy V (ad 14) B1, wHi (ad 12 2) (ad 12 3) (nI x) (nI s), wRs V (ad 12 3) 6 (fun j_ => ad (5 + j_) 0), wRing V (ad 5) (Hs 0), wRing V (ad 6) (Hs 1), wRing V (ad 7) (Hs 2), wRing V (ad 8) (Hs 3), wRing V (ad 9) (Hs 4), wRing V (ad 10) (Hs 5), wRs V (ad 12 4) 2 (fun j_ => ad (3 + j_) 0), wRing V (ad 3) X3, wRing V (ad 4) X4, wKz V (ad 12 5) kp, wSight V (ad 15) U, wSusp V (ad 16) Y1]) (wcs := [wRing V (ad 0) X0]) (wos := [wRing V (ad 0) X0]) (As := [.int (nI i1)]) (rest := []) cx (c_X3_isCut V (ad 0) X0 (nI i1) (i1 * 2 + 1) (rf_add (rf_mul rfl rfl) rfl) (by omega)) ml_X8_112 dX8_findSuspects_28 [1] rfl rfl (List.append_nil _) (List.append_nil _) [[ad 0 0, ad 0 1, ad 0 2, ad 0 3, ad 0 4, ad 0 5]] rfl rfl rfl 0 0 3 rfl rfl rfl rfl rfl rfl (Nat.le_of_ble_eq_true rfl) ⟨Nat.le_of_ble_eq_true rfl, Nat.le_of_ble_eq_true rfl⟩ ⟨Nat.le_refl _, Nat.le_refl _⟩ ?_
    refine g_if_ne_b cx 65 dX8_findSuspects_31 (by decide) (fun hw2 => ?_) (fun hw2 => ?_)
    · skip
      refine g_iinc (x := nI i1) (v := nI (i1 + 1)) (lv' := [(0, .ref (ad 12 6)), (1, .int (rLinks X0)), (2, .int (nI (i1 + 1)))]) cx dX8_findSuspects_65 rfl (by decide) (nI_add _ _) rfl ?_
      refine g_goto cx 18 dX8_findSuspects_68 (by decide) ?_
      unfold fsStep at ihi1
      dsimp only at ihi1
      rw [if_pos hw2] at ihi1
      exact ihi1
    · skip
      refine g_aload_n (v := ad 12 6) cx dX8_findSuspects_34 rfl ?_
      refine g_iload_n (v := nI i1) cx dX8_findSuspects_35 rfl ?_
      refine w_callv (ws' := (List.flatten [wMain ad, wRing V (ad 0) X0, wRing V (ad 1) X1, wRing V (ad 2) ((snd v1 (u2 (rCopy T1 X0) 1 (i1 * 2 + 1) 1) A1 B1 n o m).2.2.1), wTx V (ad 11) L (nI z) b c d u, wRd (ad 12 0) (ad 11 0) lt, wSd (ad 12 1) (ad 13 0) (ad 14 0) ((snd v1 (u2 (rCopy T1 X0) 1 (i1 * 2 + 1) 1) A1 B1 n o m).2.2.2), wCopy V (ad 13) ((snd v1 (u2 (rCopy T1 X0) 1 (i1 * 2 + 1) 1) A1 B1 n o m).1), wCopy V (ad 14) ((snd v1 (u2 (rCopy T1 X0) 1 (i1 * 2 + 1) 1) A1 B1 n o m).2.1), wHi (ad 12 2) (ad 12 3) (nI x) (nI s), wRs V (ad 12 3) 6 (fun j_ => ad (5 + j_) 0), wRing V (ad 5) (Hs 0), wRing V (ad 6) (Hs 1), wRing V (ad 7) (Hs 2), wRing V (ad 8) (Hs 3), wRing V (ad 9) (Hs 4), wRing V (ad 10) (Hs 5), wRs V (ad 12 4) 2 (fun j_ => ad (3 + j_) 0), wRing V (ad 3) X3, wRing V (ad 4) X4, wKz V (ad 12 5) kp, wSight V (ad 15) U, wSusp V (ad 16) Y1])) (As := [.int (nI i1)]) (rest := []) cx (c_X8_sendTrial_one V ad X0 X1 T1 X3 X4 Hs L z b c d u lt v1 A1 B1 x s kp U Y1 n o m k hC (nI i1) i1 rfl (by omega)) ml_X8_191 dX8_findSuspects_36 (q0 := 0) rfl rfl rfl rfl rfl (Nat.le_of_ble_eq_true rfl) ⟨Nat.le_of_ble_eq_true rfl, Nat.le_of_ble_eq_true rfl⟩ ⟨Nat.le_refl _, Nat.le_refl _⟩ ?_
      generalize hWg : snd v1 (u2 (rCopy T1 X0) 1 (i1 * 2 + 1) 1) A1 B1 n o m = W
      have hoW : W.2.2.1 5 1 = nI o := by rw [← hWg, snd_5 (by decide)]; exact ho
      refine g_aload_n (v := ad 12 6) cx dX8_findSuspects_39 rfl ?_
      refine b_get (v := .ref (ad 15 0)) cx fk_X8_63 dX8_findSuspects_40 0 0 rfl rfl rfl ?_
      refine g_aload_n (v := ad 12 6) cx dX8_findSuspects_43 rfl ?_
      refine b_get (v := .ref (ad 2 0)) cx fk_X8_19 dX8_findSuspects_44 0 0 rfl rfl rfl ?_
      refine b_calli (r0 := bI (uAg U W.2.2.1 o k)) (Ws' := [wMain ad, wRing V (ad 0) X0, wRing V (ad 1) X1, wRing V (ad 2) W.2.2.1, wTx V (ad 11) L (nI z) b c d u, wRd (ad 12 0) (ad 11 0) lt, wSd (ad 12 1) (ad 13 0) (ad 14 0) W.2.2.2, wCopy V (ad 13) W.1, wCopy V (ad 14) W.2.1, wHi (ad 12 2) (ad 12 3) (nI x) (nI s), wRs V (ad 12 3) 6 (fun j_ => ad (5 + j_) 0), wRing V (ad 5) (Hs 0), wRing V (ad 6) (Hs 1), wRing V (ad 7) (Hs 2), wRing V (ad 8) (Hs 3), wRing V (ad 9) (Hs 4), wRing V (ad 10) (Hs 5), wRs V (ad 12 4) 2 (fun j_ => ad (3 + j_) 0), wRing V (ad 3) X3, wRing V (ad 4) X4, wKz V (ad 12 5) kp, wSight V (ad 15) U, wSusp V (ad 16) Y1]) (wcs := [wSight V (ad 15) U, wRing V (ad 2) W.2.2.1]) (wos := [wSight V (ad 15) U, wRing V (ad 2) W.2.2.1]) (As := [.ref (ad 2 0)]) (rest := []) cx (c_X5_agreeWith V (ad 15) U (ad 2) W.2.2.1 k hk hk6 hU o hoW ho4) ml_X8_204 dX8_findSuspects_47 [21, 3] rfl rfl (by simp only [List.flatten_cons, List.flatten_nil, List.append_nil, List.append_assoc]) (by simp only [List.flatten_cons, List.flatten_nil, List.append_nil, List.append_assoc]) [[ad 15 0, ad 15 1, ad 15 2], [ad 2 0, ad 2 1, ad 2 2, ad 2 3, ad 2 4, ad 2 5]] rfl rfl rfl 0 0 5 rfl rfl rfl rfl rfl rfl (Nat.le_of_ble_eq_true rfl) ⟨Nat.le_of_ble_eq_true rfl, Nat.le_of_ble_eq_true rfl⟩ ⟨Nat.le_refl _, Nat.le_refl _⟩ ?_
      refine g_if_eq_b cx 65 dX8_findSuspects_50 (by decide) (fun hw3 => ?_) (fun hw3 => ?_)
      · skip
        refine g_iinc (x := nI i1) (v := nI (i1 + 1)) (lv' := [(0, .ref (ad 12 6)), (1, .int (rLinks X0)), (2, .int (nI (i1 + 1)))]) cx dX8_findSuspects_65 rfl (by decide) (nI_add _ _) rfl ?_
        refine g_goto cx 18 dX8_findSuspects_68 (by decide) ?_
        unfold fsStep at ihi1
        dsimp only at ihi1
        rw [hWg, if_neg hw2, if_neg hw3] at ihi1
        exact ihi1
      · skip
        refine g_aload_n (v := ad 12 6) cx dX8_findSuspects_53 rfl ?_
        refine b_get (v := .ref (ad 16 0)) cx fk_X8_70 dX8_findSuspects_54 0 0 rfl rfl rfl ?_
        refine g_iload_n (v := nI i1) cx dX8_findSuspects_57 rfl ?_
        refine g_aload_n (v := ad 12 6) cx dX8_findSuspects_58 rfl ?_
        refine b_get (v := .ref (ad 2 0)) cx fk_X8_19 dX8_findSuspects_59 0 0 rfl rfl rfl ?_
        refine b_callv (Ws' := [wMain ad, wRing V (ad 0) X0, wRing V (ad 1) X1, wRing V (ad 2) W.2.2.1, wTx V (ad 11) L (nI z) b c d u, wRd (ad 12 0) (ad 11 0) lt, wSd (ad 12 1) (ad 13 0) (ad 14 0) W.2.2.2, wCopy V (ad 13) W.1, wCopy V (ad 14) W.2.1, wHi (ad 12 2) (ad 12 3) (nI x) (nI s), wRs V (ad 12 3) 6 (fun j_ => ad (5 + j_) 0), wRing V (ad 5) (Hs 0), wRing V (ad 6) (Hs 1), wRing V (ad 7) (Hs 2), wRing V (ad 8) (Hs 3), wRing V (ad 9) (Hs 4), wRing V (ad 10) (Hs 5), wRs V (ad 12 4) 2 (fun j_ => ad (3 + j_) 0), wRing V (ad 3) X3, wRing V (ad 4) X4, wKz V (ad 12 5) kp, wSight V (ad 15) U, wSusp V (ad 16) (yAdd Y1 W.2.2.1 o (yc Y1) (nI i1))]) (wcs := [wSusp V (ad 16) Y1, wRing V (ad 2) W.2.2.1]) (wos := [wSusp V (ad 16) (yAdd Y1 W.2.2.1 o (yc Y1) (nI i1)), wRing V (ad 2) W.2.2.1]) (As := [.int (nI i1), .ref (ad 2 0)]) (rest := []) cx (c_X6_append V (ad 16) Y1 (ad 2) W.2.2.1 (nI i1) (yc Y1) hY.1 (by have := hY.2; omega) o hoW ho4) ml_X8_219 dX8_findSuspects_62 [22, 3] rfl rfl (by simp only [List.flatten_cons, List.flatten_nil, List.append_nil, List.append_assoc]) (by simp only [List.flatten_cons, List.flatten_nil, List.append_nil, List.append_assoc]) [[ad 16 0, ad 16 1, ad 16 2], [ad 2 0, ad 2 1, ad 2 2, ad 2 3, ad 2 4, ad 2 5]] rfl rfl rfl 0 0 6 rfl rfl rfl rfl rfl rfl (Nat.le_of_ble_eq_true rfl) ⟨Nat.le_of_ble_eq_true rfl, Nat.le_of_ble_eq_true rfl⟩ ⟨Nat.le_refl _, Nat.le_refl _⟩ ?_
        refine g_iinc (x := nI i1) (v := nI (i1 + 1)) (lv' := [(0, .ref (ad 12 6)), (1, .int (rLinks X0)), (2, .int (nI (i1 + 1)))]) cx dX8_findSuspects_65 rfl (by decide) (nI_add _ _) rfl ?_
        refine g_goto cx 18 dX8_findSuspects_68 (by decide) ?_
        unfold fsStep at ihi1
        dsimp only at ihi1
        rw [hWg, if_neg hw2, if_pos hw3] at ihi1
        exact ihi1
  · skip
    refine g_iload_n (v := nI m) cx dX8_findSuspects_18 rfl ?_
    refine g_iload_n (v := rLinks X0) cx dX8_findSuspects_19 rfl ?_
    refine g_icmp_ge cx 71 dX8_findSuspects_20 (by decide) (fun hw4 => ?_) (fun hw4 => absurd (rf_geMP rfl hm (by omega) (by omega) (by omega)) hw4)
    exact hret _ _ _ dX8_findSuspects_71 (rfl)
def rm_X8_which_zero : Room := { frames := 6, cells := 0, slots := 0, locals := 140 }
set_option maxRecDepth 100000 in
set_option maxHeartbeats 4000000 in
theorem c_X8_which_zero (V : VT) (ad : Nat → Nat → Nat) (X0 X1 X2 X3 X4 : S2) (Hs : Nat → S2) (L : Nat → Int32) (z : Nat) (b c d u lt sv : Int32) (A B : S2) (x s : Nat) (kp : Nat → Int32) (U Y : S2) (n o m k : Nat) (hC : okC X0 X3 X4 Hs z x s n o m k U) (l : Int32) (t : S2 × S2 × S2 × Int32 × S2) (ht : fsN X0 U n o m k m (X2, A, B, sv, u2 Y 2 0 0) = t) (hl : l = nI 0) : CI V yX8_which cX8_which 2 .int rm_X8_which_zero [.ref (ad 12 6), .int l] ((List.flatten [wMain ad, wRing V (ad 0) X0, wRing V (ad 1) X1, wRing V (ad 2) X2, wTx V (ad 11) L (nI z) b c d u, wRd (ad 12 0) (ad 11 0) lt, wSd (ad 12 1) (ad 13 0) (ad 14 0) sv, wCopy V (ad 13) A, wCopy V (ad 14) B, wHi (ad 12 2) (ad 12 3) (nI x) (nI s), wRs V (ad 12 3) 6 (fun j_ => ad (5 + j_) 0), wRing V (ad 5) (Hs 0), wRing V (ad 6) (Hs 1), wRing V (ad 7) (Hs 2), wRing V (ad 8) (Hs 3), wRing V (ad 9) (Hs 4), wRing V (ad 10) (Hs 5), wRs V (ad 12 4) 2 (fun j_ => ad (3 + j_) 0), wRing V (ad 3) X3, wRing V (ad 4) X4, wKz V (ad 12 5) kp, wSight V (ad 15) U, wSusp V (ad 16) Y])) (fun r_ w_ => r_ = t.2.2.2.2 2 0 ∧ w_ = (List.flatten [wMain ad, wRing V (ad 0) X0, wRing V (ad 1) X1, wRing V (ad 2) t.1, wTx V (ad 11) L (nI z) b c d u, wRd (ad 12 0) (ad 11 0) lt, wSd (ad 12 1) (ad 13 0) (ad 14 0) t.2.2.2.1, wCopy V (ad 13) t.2.1, wCopy V (ad 14) t.2.2.1, wHi (ad 12 2) (ad 12 3) (nI x) (nI s), wRs V (ad 12 3) 6 (fun j_ => ad (5 + j_) 0), wRing V (ad 5) (Hs 0), wRing V (ad 6) (Hs 1), wRing V (ad 7) (Hs 2), wRing V (ad 8) (Hs 3), wRing V (ad 9) (Hs 4), wRing V (ad 10) (Hs 5), wRs V (ad 12 4) 2 (fun j_ => ad (3 + j_) 0), wRing V (ad 3) X3, wRing V (ad 4) X4, wKz V (ad 12 5) kp, wSight V (ad 15) U, wSusp V (ad 16) t.2.2.2.2])) := by
  refine CI_intro (by decide) (Nat.le_of_ble_eq_true rfl) (fun K cx hret => ?_)
  show G V K 2 0 0 ((List.flatten [wMain ad, wRing V (ad 0) X0, wRing V (ad 1) X1, wRing V (ad 2) X2, wTx V (ad 11) L (nI z) b c d u, wRd (ad 12 0) (ad 11 0) lt, wSd (ad 12 1) (ad 13 0) (ad 14 0) sv, wCopy V (ad 13) A, wCopy V (ad 14) B, wHi (ad 12 2) (ad 12 3) (nI x) (nI s), wRs V (ad 12 3) 6 (fun j_ => ad (5 + j_) 0), wRing V (ad 5) (Hs 0), wRing V (ad 6) (Hs 1), wRing V (ad 7) (Hs 2), wRing V (ad 8) (Hs 3), wRing V (ad 9) (Hs 4), wRing V (ad 10) (Hs 5), wRs V (ad 12 4) 2 (fun j_ => ad (3 + j_) 0), wRing V (ad 3) X3, wRing V (ad 4) X4, wKz V (ad 12 5) kp, wSight V (ad 15) U, wSusp V (ad 16) Y])) 0 [(0, .ref (ad 12 6)), (1, .int l)] []
  have hC0 := hC
  obtain ⟨hz, hx, hs, hn, hn6, hn1, ho, ho4, hm, hm7, hat, hbR, hbH, hbI, hk, hk6, hU⟩ := hC0
  refine g_iload_n (v := l) cx dX8_which_0 rfl ?_
  refine g_if_lt cx 9 dX8_which_1 (by decide) (fun hw1 => absurd hw1 (rf_ltMN hl (nl 0) (by omega) (by omega) (by omega))) (fun hw1 => ?_)
  refine g_iload_n (v := l) cx dX8_which_4 rfl ?_
  refine g_iconst (v := 2) cx dX8_which_5 (by decide) ?_
  refine g_icmp_le cx 11 dX8_which_6 (by decide) (fun hw2 => ?_) (fun hw2 => absurd (rf_leMP hl (nl 2) (by omega) (by omega) (by omega)) hw2)
  refine g_iload_n (v := l) cx dX8_which_11 rfl ?_
  refine g_iconst (v := 2) cx dX8_which_12 (by decide) ?_
  refine g_icmp_ne cx 42 dX8_which_13 (by decide) (fun hw3 => ?_) (fun hw3 => absurd hw3 (rf_eqMN hl (nl 2) (by omega) (by omega) (by omega)))
  refine g_aload_n (v := ad 12 6) cx dX8_which_42 rfl ?_
  refine w_callv (ws' := (List.flatten [wMain ad, wRing V (ad 0) X0, wRing V (ad 1) X1, wRing V (ad 2) ((fsN X0 U n o m k m (X2, A, B, sv, u2 Y 2 0 0)).1), wTx V (ad 11) L (nI z) b c d u, wRd (ad 12 0) (ad 11 0) lt, wSd (ad 12 1) (ad 13 0) (ad 14 0) ((fsN X0 U n o m k m (X2, A, B, sv, u2 Y 2 0 0)).2.2.2.1), wCopy V (ad 13) ((fsN X0 U n o m k m (X2, A, B, sv, u2 Y 2 0 0)).2.1), wCopy V (ad 14) ((fsN X0 U n o m k m (X2, A, B, sv, u2 Y 2 0 0)).2.2.1), wHi (ad 12 2) (ad 12 3) (nI x) (nI s), wRs V (ad 12 3) 6 (fun j_ => ad (5 + j_) 0), wRing V (ad 5) (Hs 0), wRing V (ad 6) (Hs 1), wRing V (ad 7) (Hs 2), wRing V (ad 8) (Hs 3), wRing V (ad 9) (Hs 4), wRing V (ad 10) (Hs 5), wRs V (ad 12 4) 2 (fun j_ => ad (3 + j_) 0), wRing V (ad 3) X3, wRing V (ad 4) X4, wKz V (ad 12 5) kp, wSight V (ad 15) U, wSusp V (ad 16) ((fsN X0 U n o m k m (X2, A, B, sv, u2 Y 2 0 0)).2.2.2.2)])) (As := []) (rest := []) cx (c_X8_findSuspects_all V ad X0 X1 X2 X3 X4 Hs L z b c d u lt sv A B x s kp U Y n o m k hC) ml_X8_207 dX8_which_43 (q0 := 0) rfl rfl rfl rfl rfl (Nat.le_of_ble_eq_true rfl) ⟨Nat.le_of_ble_eq_true rfl, Nat.le_of_ble_eq_true rfl⟩ ⟨Nat.le_refl _, Nat.le_refl _⟩ ?_
  rw [ht]
  refine g_iload_n (v := l) cx dX8_which_46 rfl ?_
  refine g_if_ne cx 58 dX8_which_47 (by decide) (fun hw4 => absurd (rf_eqMP hl (nl 0) (by omega) (by omega) (by omega)) hw4) (fun hw4 => ?_)
  refine g_aload_n (v := ad 12 6) cx dX8_which_50 rfl ?_
  refine b_get (v := .ref (ad 16 0)) cx fk_X8_70 dX8_which_51 0 0 rfl rfl rfl ?_
  refine b_get (v := .int (t.2.2.2.2 2 0)) cx fk_X8_210 dX8_which_54 22 0 rfl rfl rfl ?_
  exact hret _ _ _ _ dX8_which_57 (rfl) ⟨rfl, rfl⟩
def rm_X8_which_onenone : Room := { frames := 6, cells := 0, slots := 0, locals := 140 }
set_option maxRecDepth 100000 in
set_option maxHeartbeats 4000000 in
theorem c_X8_which_onenone (V : VT) (ad : Nat → Nat → Nat) (X0 X1 X2 X3 X4 : S2) (Hs : Nat → S2) (L : Nat → Int32) (z : Nat) (b c d u lt sv : Int32) (A B : S2) (x s : Nat) (kp : Nat → Int32) (U Y : S2) (n o m k : Nat) (hC : okC X0 X3 X4 Hs z x s n o m k U) (l : Int32) (t : S2 × S2 × S2 × Int32 × S2) (ht : fsN X0 U n o m k m (X2, A, B, sv, u2 Y 2 0 0) = t) (hl : l = nI 1) (h1 : t.2.2.2.2 2 0 = 0) : CI V yX8_which cX8_which 2 .int rm_X8_which_onenone [.ref (ad 12 6), .int l] ((List.flatten [wMain ad, wRing V (ad 0) X0, wRing V (ad 1) X1, wRing V (ad 2) X2, wTx V (ad 11) L (nI z) b c d u, wRd (ad 12 0) (ad 11 0) lt, wSd (ad 12 1) (ad 13 0) (ad 14 0) sv, wCopy V (ad 13) A, wCopy V (ad 14) B, wHi (ad 12 2) (ad 12 3) (nI x) (nI s), wRs V (ad 12 3) 6 (fun j_ => ad (5 + j_) 0), wRing V (ad 5) (Hs 0), wRing V (ad 6) (Hs 1), wRing V (ad 7) (Hs 2), wRing V (ad 8) (Hs 3), wRing V (ad 9) (Hs 4), wRing V (ad 10) (Hs 5), wRs V (ad 12 4) 2 (fun j_ => ad (3 + j_) 0), wRing V (ad 3) X3, wRing V (ad 4) X4, wKz V (ad 12 5) kp, wSight V (ad 15) U, wSusp V (ad 16) Y])) (fun r_ w_ => r_ = (-9) ∧ w_ = (List.flatten [wMain ad, wRing V (ad 0) X0, wRing V (ad 1) X1, wRing V (ad 2) t.1, wTx V (ad 11) L (nI z) b c d u, wRd (ad 12 0) (ad 11 0) lt, wSd (ad 12 1) (ad 13 0) (ad 14 0) t.2.2.2.1, wCopy V (ad 13) t.2.1, wCopy V (ad 14) t.2.2.1, wHi (ad 12 2) (ad 12 3) (nI x) (nI s), wRs V (ad 12 3) 6 (fun j_ => ad (5 + j_) 0), wRing V (ad 5) (Hs 0), wRing V (ad 6) (Hs 1), wRing V (ad 7) (Hs 2), wRing V (ad 8) (Hs 3), wRing V (ad 9) (Hs 4), wRing V (ad 10) (Hs 5), wRs V (ad 12 4) 2 (fun j_ => ad (3 + j_) 0), wRing V (ad 3) X3, wRing V (ad 4) X4, wKz V (ad 12 5) kp, wSight V (ad 15) U, wSusp V (ad 16) t.2.2.2.2])) := by
  refine CI_intro (by decide) (Nat.le_of_ble_eq_true rfl) (fun K cx hret => ?_)
  show G V K 2 0 0 ((List.flatten [wMain ad, wRing V (ad 0) X0, wRing V (ad 1) X1, wRing V (ad 2) X2, wTx V (ad 11) L (nI z) b c d u, wRd (ad 12 0) (ad 11 0) lt, wSd (ad 12 1) (ad 13 0) (ad 14 0) sv, wCopy V (ad 13) A, wCopy V (ad 14) B, wHi (ad 12 2) (ad 12 3) (nI x) (nI s), wRs V (ad 12 3) 6 (fun j_ => ad (5 + j_) 0), wRing V (ad 5) (Hs 0), wRing V (ad 6) (Hs 1), wRing V (ad 7) (Hs 2), wRing V (ad 8) (Hs 3), wRing V (ad 9) (Hs 4), wRing V (ad 10) (Hs 5), wRs V (ad 12 4) 2 (fun j_ => ad (3 + j_) 0), wRing V (ad 3) X3, wRing V (ad 4) X4, wKz V (ad 12 5) kp, wSight V (ad 15) U, wSusp V (ad 16) Y])) 0 [(0, .ref (ad 12 6)), (1, .int l)] []
  have hC0 := hC
  obtain ⟨hz, hx, hs, hn, hn6, hn1, ho, ho4, hm, hm7, hat, hbR, hbH, hbI, hk, hk6, hU⟩ := hC0
  refine g_iload_n (v := l) cx dX8_which_0 rfl ?_
  refine g_if_lt cx 9 dX8_which_1 (by decide) (fun hw1 => absurd hw1 (rf_ltMN hl (nl 0) (by omega) (by omega) (by omega))) (fun hw1 => ?_)
  refine g_iload_n (v := l) cx dX8_which_4 rfl ?_
  refine g_iconst (v := 2) cx dX8_which_5 (by decide) ?_
  refine g_icmp_le cx 11 dX8_which_6 (by decide) (fun hw2 => ?_) (fun hw2 => absurd (rf_leMP hl (nl 2) (by omega) (by omega) (by omega)) hw2)
  refine g_iload_n (v := l) cx dX8_which_11 rfl ?_
  refine g_iconst (v := 2) cx dX8_which_12 (by decide) ?_
  refine g_icmp_ne cx 42 dX8_which_13 (by decide) (fun hw3 => ?_) (fun hw3 => absurd hw3 (rf_eqMN hl (nl 2) (by omega) (by omega) (by omega)))
  refine g_aload_n (v := ad 12 6) cx dX8_which_42 rfl ?_
  refine w_callv (ws' := (List.flatten [wMain ad, wRing V (ad 0) X0, wRing V (ad 1) X1, wRing V (ad 2) ((fsN X0 U n o m k m (X2, A, B, sv, u2 Y 2 0 0)).1), wTx V (ad 11) L (nI z) b c d u, wRd (ad 12 0) (ad 11 0) lt, wSd (ad 12 1) (ad 13 0) (ad 14 0) ((fsN X0 U n o m k m (X2, A, B, sv, u2 Y 2 0 0)).2.2.2.1), wCopy V (ad 13) ((fsN X0 U n o m k m (X2, A, B, sv, u2 Y 2 0 0)).2.1), wCopy V (ad 14) ((fsN X0 U n o m k m (X2, A, B, sv, u2 Y 2 0 0)).2.2.1), wHi (ad 12 2) (ad 12 3) (nI x) (nI s), wRs V (ad 12 3) 6 (fun j_ => ad (5 + j_) 0), wRing V (ad 5) (Hs 0), wRing V (ad 6) (Hs 1), wRing V (ad 7) (Hs 2), wRing V (ad 8) (Hs 3), wRing V (ad 9) (Hs 4), wRing V (ad 10) (Hs 5), wRs V (ad 12 4) 2 (fun j_ => ad (3 + j_) 0), wRing V (ad 3) X3, wRing V (ad 4) X4, wKz V (ad 12 5) kp, wSight V (ad 15) U, wSusp V (ad 16) ((fsN X0 U n o m k m (X2, A, B, sv, u2 Y 2 0 0)).2.2.2.2)])) (As := []) (rest := []) cx (c_X8_findSuspects_all V ad X0 X1 X2 X3 X4 Hs L z b c d u lt sv A B x s kp U Y n o m k hC) ml_X8_207 dX8_which_43 (q0 := 0) rfl rfl rfl rfl rfl (Nat.le_of_ble_eq_true rfl) ⟨Nat.le_of_ble_eq_true rfl, Nat.le_of_ble_eq_true rfl⟩ ⟨Nat.le_refl _, Nat.le_refl _⟩ ?_
  rw [ht]
  refine g_iload_n (v := l) cx dX8_which_46 rfl ?_
  refine g_if_ne cx 58 dX8_which_47 (by decide) (fun hw4 => ?_) (fun hw4 => absurd hw4 (rf_eqMN hl (nl 0) (by omega) (by omega) (by omega)))
  refine g_aload_n (v := ad 12 6) cx dX8_which_58 rfl ?_
  refine b_get (v := .ref (ad 16 0)) cx fk_X8_70 dX8_which_59 0 0 rfl rfl rfl ?_
  refine b_get (v := .int (t.2.2.2.2 2 0)) cx fk_X8_210 dX8_which_62 22 0 rfl rfl rfl ?_
  refine g_if_ne cx 73 dX8_which_65 (by decide) (fun hw5 => absurd (h1) hw5) (fun hw5 => ?_)
  refine g_bipush (v := (-9)) cx dX8_which_68 (by decide) ?_
  refine g_goto cx 82 dX8_which_70 (by decide) ?_
  exact hret _ _ _ _ dX8_which_82 (rfl) ⟨rfl, rfl⟩
def rm_X8_which_onesome : Room := { frames := 6, cells := 0, slots := 0, locals := 140 }
set_option maxRecDepth 100000 in
set_option maxHeartbeats 4000000 in
theorem c_X8_which_onesome (V : VT) (ad : Nat → Nat → Nat) (X0 X1 X2 X3 X4 : S2) (Hs : Nat → S2) (L : Nat → Int32) (z : Nat) (b c d u lt sv : Int32) (A B : S2) (x s : Nat) (kp : Nat → Int32) (U Y : S2) (n o m k : Nat) (hC : okC X0 X3 X4 Hs z x s n o m k U) (l : Int32) (t : S2 × S2 × S2 × Int32 × S2) (ht : fsN X0 U n o m k m (X2, A, B, sv, u2 Y 2 0 0) = t) (hl : l = nI 1) (h1 : ¬ t.2.2.2.2 2 0 = 0) : CI V yX8_which cX8_which 2 .int rm_X8_which_onesome [.ref (ad 12 6), .int l] ((List.flatten [wMain ad, wRing V (ad 0) X0, wRing V (ad 1) X1, wRing V (ad 2) X2, wTx V (ad 11) L (nI z) b c d u, wRd (ad 12 0) (ad 11 0) lt, wSd (ad 12 1) (ad 13 0) (ad 14 0) sv, wCopy V (ad 13) A, wCopy V (ad 14) B, wHi (ad 12 2) (ad 12 3) (nI x) (nI s), wRs V (ad 12 3) 6 (fun j_ => ad (5 + j_) 0), wRing V (ad 5) (Hs 0), wRing V (ad 6) (Hs 1), wRing V (ad 7) (Hs 2), wRing V (ad 8) (Hs 3), wRing V (ad 9) (Hs 4), wRing V (ad 10) (Hs 5), wRs V (ad 12 4) 2 (fun j_ => ad (3 + j_) 0), wRing V (ad 3) X3, wRing V (ad 4) X4, wKz V (ad 12 5) kp, wSight V (ad 15) U, wSusp V (ad 16) Y])) (fun r_ w_ => r_ = t.2.2.2.2 0 0 ∧ w_ = (List.flatten [wMain ad, wRing V (ad 0) X0, wRing V (ad 1) X1, wRing V (ad 2) t.1, wTx V (ad 11) L (nI z) b c d u, wRd (ad 12 0) (ad 11 0) lt, wSd (ad 12 1) (ad 13 0) (ad 14 0) t.2.2.2.1, wCopy V (ad 13) t.2.1, wCopy V (ad 14) t.2.2.1, wHi (ad 12 2) (ad 12 3) (nI x) (nI s), wRs V (ad 12 3) 6 (fun j_ => ad (5 + j_) 0), wRing V (ad 5) (Hs 0), wRing V (ad 6) (Hs 1), wRing V (ad 7) (Hs 2), wRing V (ad 8) (Hs 3), wRing V (ad 9) (Hs 4), wRing V (ad 10) (Hs 5), wRs V (ad 12 4) 2 (fun j_ => ad (3 + j_) 0), wRing V (ad 3) X3, wRing V (ad 4) X4, wKz V (ad 12 5) kp, wSight V (ad 15) U, wSusp V (ad 16) t.2.2.2.2])) := by
  refine CI_intro (by decide) (Nat.le_of_ble_eq_true rfl) (fun K cx hret => ?_)
  show G V K 2 0 0 ((List.flatten [wMain ad, wRing V (ad 0) X0, wRing V (ad 1) X1, wRing V (ad 2) X2, wTx V (ad 11) L (nI z) b c d u, wRd (ad 12 0) (ad 11 0) lt, wSd (ad 12 1) (ad 13 0) (ad 14 0) sv, wCopy V (ad 13) A, wCopy V (ad 14) B, wHi (ad 12 2) (ad 12 3) (nI x) (nI s), wRs V (ad 12 3) 6 (fun j_ => ad (5 + j_) 0), wRing V (ad 5) (Hs 0), wRing V (ad 6) (Hs 1), wRing V (ad 7) (Hs 2), wRing V (ad 8) (Hs 3), wRing V (ad 9) (Hs 4), wRing V (ad 10) (Hs 5), wRs V (ad 12 4) 2 (fun j_ => ad (3 + j_) 0), wRing V (ad 3) X3, wRing V (ad 4) X4, wKz V (ad 12 5) kp, wSight V (ad 15) U, wSusp V (ad 16) Y])) 0 [(0, .ref (ad 12 6)), (1, .int l)] []
  have hC0 := hC
  obtain ⟨hz, hx, hs, hn, hn6, hn1, ho, ho4, hm, hm7, hat, hbR, hbH, hbI, hk, hk6, hU⟩ := hC0
  refine g_iload_n (v := l) cx dX8_which_0 rfl ?_
  refine g_if_lt cx 9 dX8_which_1 (by decide) (fun hw1 => absurd hw1 (rf_ltMN hl (nl 0) (by omega) (by omega) (by omega))) (fun hw1 => ?_)
  refine g_iload_n (v := l) cx dX8_which_4 rfl ?_
  refine g_iconst (v := 2) cx dX8_which_5 (by decide) ?_
  refine g_icmp_le cx 11 dX8_which_6 (by decide) (fun hw2 => ?_) (fun hw2 => absurd (rf_leMP hl (nl 2) (by omega) (by omega) (by omega)) hw2)
  refine g_iload_n (v := l) cx dX8_which_11 rfl ?_
  refine g_iconst (v := 2) cx dX8_which_12 (by decide) ?_
  refine g_icmp_ne cx 42 dX8_which_13 (by decide) (fun hw3 => ?_) (fun hw3 => absurd hw3 (rf_eqMN hl (nl 2) (by omega) (by omega) (by omega)))
  refine g_aload_n (v := ad 12 6) cx dX8_which_42 rfl ?_
  refine w_callv (ws' := (List.flatten [wMain ad, wRing V (ad 0) X0, wRing V (ad 1) X1, wRing V (ad 2) ((fsN X0 U n o m k m (X2, A, B, sv, u2 Y 2 0 0)).1), wTx V (ad 11) L (nI z) b c d u, wRd (ad 12 0) (ad 11 0) lt, wSd (ad 12 1) (ad 13 0) (ad 14 0) ((fsN X0 U n o m k m (X2, A, B, sv, u2 Y 2 0 0)).2.2.2.1), wCopy V (ad 13) ((fsN X0 U n o m k m (X2, A, B, sv, u2 Y 2 0 0)).2.1), wCopy V (ad 14) ((fsN X0 U n o m k m (X2, A, B, sv, u2 Y 2 0 0)).2.2.1), wHi (ad 12 2) (ad 12 3) (nI x) (nI s), wRs V (ad 12 3) 6 (fun j_ => ad (5 + j_) 0), wRing V (ad 5) (Hs 0), wRing V (ad 6) (Hs 1), wRing V (ad 7) (Hs 2), wRing V (ad 8) (Hs 3), wRing V (ad 9) (Hs 4), wRing V (ad 10) (Hs 5), wRs V (ad 12 4) 2 (fun j_ => ad (3 + j_) 0), wRing V (ad 3) X3, wRing V (ad 4) X4, wKz V (ad 12 5) kp, wSight V (ad 15) U, wSusp V (ad 16) ((fsN X0 U n o m k m (X2, A, B, sv, u2 Y 2 0 0)).2.2.2.2)])) (As := []) (rest := []) cx (c_X8_findSuspects_all V ad X0 X1 X2 X3 X4 Hs L z b c d u lt sv A B x s kp U Y n o m k hC) ml_X8_207 dX8_which_43 (q0 := 0) rfl rfl rfl rfl rfl (Nat.le_of_ble_eq_true rfl) ⟨Nat.le_of_ble_eq_true rfl, Nat.le_of_ble_eq_true rfl⟩ ⟨Nat.le_refl _, Nat.le_refl _⟩ ?_
  rw [ht]
  refine g_iload_n (v := l) cx dX8_which_46 rfl ?_
  refine g_if_ne cx 58 dX8_which_47 (by decide) (fun hw4 => ?_) (fun hw4 => absurd hw4 (rf_eqMN hl (nl 0) (by omega) (by omega) (by omega)))
  refine g_aload_n (v := ad 12 6) cx dX8_which_58 rfl ?_
  refine b_get (v := .ref (ad 16 0)) cx fk_X8_70 dX8_which_59 0 0 rfl rfl rfl ?_
  refine b_get (v := .int (t.2.2.2.2 2 0)) cx fk_X8_210 dX8_which_62 22 0 rfl rfl rfl ?_
  refine g_if_ne cx 73 dX8_which_65 (by decide) (fun hw5 => ?_) (fun hw5 => absurd hw5 (h1))
  refine g_aload_n (v := ad 12 6) cx dX8_which_73 rfl ?_
  refine b_get (v := .ref (ad 16 0)) cx fk_X8_70 dX8_which_74 0 0 rfl rfl rfl ?_
  refine b_get (v := .ref (ad 16 1)) cx fk_X8_211 dX8_which_77 22 0 rfl rfl rfl ?_
  refine g_iconst (v := 0) cx dX8_which_80 (by decide) ?_
  refine b_iald cx dX8_which_81 22 1 0 rfl rfl (nl 0) (by omega) (by first | decide | omega) ?_
  exact hret _ _ _ _ dX8_which_82 (rfl) ⟨rfl, rfl⟩
def rm_X8_ask_none : Room := { frames := 6, cells := 0, slots := 0, locals := 140 }
set_option maxRecDepth 100000 in
set_option maxHeartbeats 4000000 in
theorem c_X8_ask_none (V : VT) (ad : Nat → Nat → Nat) (X0 X1 X2 X3 X4 : S2) (Hs : Nat → S2) (L : Nat → Int32) (z : Nat) (b c d u lt sv : Int32) (A B : S2) (x s : Nat) (kp : Nat → Int32) (U Y : S2) (n o m k : Nat) (hC : okC X0 X3 X4 Hs z x s n o m k U) (t : S2 × S2 × S2 × Int32 × S2) (ht : fsN X0 U n o m k m (X2, A, B, sv, u2 Y 2 0 0) = t) (h1 : ¬ 1 < t.2.2.2.2 2 0) : CI V yX8_ask cX8_ask 1 .int rm_X8_ask_none [.ref (ad 12 6)] ((List.flatten [wMain ad, wRing V (ad 0) X0, wRing V (ad 1) X1, wRing V (ad 2) X2, wTx V (ad 11) L (nI z) b c d u, wRd (ad 12 0) (ad 11 0) lt, wSd (ad 12 1) (ad 13 0) (ad 14 0) sv, wCopy V (ad 13) A, wCopy V (ad 14) B, wHi (ad 12 2) (ad 12 3) (nI x) (nI s), wRs V (ad 12 3) 6 (fun j_ => ad (5 + j_) 0), wRing V (ad 5) (Hs 0), wRing V (ad 6) (Hs 1), wRing V (ad 7) (Hs 2), wRing V (ad 8) (Hs 3), wRing V (ad 9) (Hs 4), wRing V (ad 10) (Hs 5), wRs V (ad 12 4) 2 (fun j_ => ad (3 + j_) 0), wRing V (ad 3) X3, wRing V (ad 4) X4, wKz V (ad 12 5) kp, wSight V (ad 15) U, wSusp V (ad 16) Y])) (fun r_ w_ => r_ = (-9) ∧ w_ = (List.flatten [wMain ad, wRing V (ad 0) X0, wRing V (ad 1) X1, wRing V (ad 2) t.1, wTx V (ad 11) L (nI z) b c d u, wRd (ad 12 0) (ad 11 0) lt, wSd (ad 12 1) (ad 13 0) (ad 14 0) t.2.2.2.1, wCopy V (ad 13) t.2.1, wCopy V (ad 14) t.2.2.1, wHi (ad 12 2) (ad 12 3) (nI x) (nI s), wRs V (ad 12 3) 6 (fun j_ => ad (5 + j_) 0), wRing V (ad 5) (Hs 0), wRing V (ad 6) (Hs 1), wRing V (ad 7) (Hs 2), wRing V (ad 8) (Hs 3), wRing V (ad 9) (Hs 4), wRing V (ad 10) (Hs 5), wRs V (ad 12 4) 2 (fun j_ => ad (3 + j_) 0), wRing V (ad 3) X3, wRing V (ad 4) X4, wKz V (ad 12 5) kp, wSight V (ad 15) U, wSusp V (ad 16) t.2.2.2.2])) := by
  refine CI_intro (by decide) (Nat.le_of_ble_eq_true rfl) (fun K cx hret => ?_)
  show G V K 1 0 0 ((List.flatten [wMain ad, wRing V (ad 0) X0, wRing V (ad 1) X1, wRing V (ad 2) X2, wTx V (ad 11) L (nI z) b c d u, wRd (ad 12 0) (ad 11 0) lt, wSd (ad 12 1) (ad 13 0) (ad 14 0) sv, wCopy V (ad 13) A, wCopy V (ad 14) B, wHi (ad 12 2) (ad 12 3) (nI x) (nI s), wRs V (ad 12 3) 6 (fun j_ => ad (5 + j_) 0), wRing V (ad 5) (Hs 0), wRing V (ad 6) (Hs 1), wRing V (ad 7) (Hs 2), wRing V (ad 8) (Hs 3), wRing V (ad 9) (Hs 4), wRing V (ad 10) (Hs 5), wRs V (ad 12 4) 2 (fun j_ => ad (3 + j_) 0), wRing V (ad 3) X3, wRing V (ad 4) X4, wKz V (ad 12 5) kp, wSight V (ad 15) U, wSusp V (ad 16) Y])) 0 [(0, .ref (ad 12 6))] []
  have hC0 := hC
  obtain ⟨hz, hx, hs, hn, hn6, hn1, ho, ho4, hm, hm7, hat, hbR, hbH, hbI, hk, hk6, hU⟩ := hC0
  refine g_aload_n (v := ad 12 6) cx dX8_ask_0 rfl ?_
  refine w_callv (ws' := (List.flatten [wMain ad, wRing V (ad 0) X0, wRing V (ad 1) X1, wRing V (ad 2) ((fsN X0 U n o m k m (X2, A, B, sv, u2 Y 2 0 0)).1), wTx V (ad 11) L (nI z) b c d u, wRd (ad 12 0) (ad 11 0) lt, wSd (ad 12 1) (ad 13 0) (ad 14 0) ((fsN X0 U n o m k m (X2, A, B, sv, u2 Y 2 0 0)).2.2.2.1), wCopy V (ad 13) ((fsN X0 U n o m k m (X2, A, B, sv, u2 Y 2 0 0)).2.1), wCopy V (ad 14) ((fsN X0 U n o m k m (X2, A, B, sv, u2 Y 2 0 0)).2.2.1), wHi (ad 12 2) (ad 12 3) (nI x) (nI s), wRs V (ad 12 3) 6 (fun j_ => ad (5 + j_) 0), wRing V (ad 5) (Hs 0), wRing V (ad 6) (Hs 1), wRing V (ad 7) (Hs 2), wRing V (ad 8) (Hs 3), wRing V (ad 9) (Hs 4), wRing V (ad 10) (Hs 5), wRs V (ad 12 4) 2 (fun j_ => ad (3 + j_) 0), wRing V (ad 3) X3, wRing V (ad 4) X4, wKz V (ad 12 5) kp, wSight V (ad 15) U, wSusp V (ad 16) ((fsN X0 U n o m k m (X2, A, B, sv, u2 Y 2 0 0)).2.2.2.2)])) (As := []) (rest := []) cx (c_X8_findSuspects_all V ad X0 X1 X2 X3 X4 Hs L z b c d u lt sv A B x s kp U Y n o m k hC) ml_X8_207 dX8_ask_1 (q0 := 0) rfl rfl rfl rfl rfl (Nat.le_of_ble_eq_true rfl) ⟨Nat.le_of_ble_eq_true rfl, Nat.le_of_ble_eq_true rfl⟩ ⟨Nat.le_refl _, Nat.le_refl _⟩ ?_
  rw [ht]
  refine g_aload_n (v := ad 12 6) cx dX8_ask_4 rfl ?_
  refine b_get (v := .ref (ad 16 0)) cx fk_X8_70 dX8_ask_5 0 0 rfl rfl rfl ?_
  refine b_get (v := .int (t.2.2.2.2 2 0)) cx fk_X8_210 dX8_ask_8 22 0 rfl rfl rfl ?_
  refine g_iconst (v := 1) cx dX8_ask_11 (by decide) ?_
  refine g_icmp_gt cx 20 dX8_ask_12 (by decide) (fun hw1 => absurd hw1 (h1)) (fun hw1 => ?_)
  refine g_bipush (v := (-9)) cx dX8_ask_15 (by decide) ?_
  refine g_goto cx 27 dX8_ask_17 (by decide) ?_
  exact hret _ _ _ _ dX8_ask_27 (rfl) ⟨rfl, rfl⟩
def rm_X8_ask_ok : Room := { frames := 6, cells := 0, slots := 0, locals := 140 }
set_option maxRecDepth 100000 in
set_option maxHeartbeats 4000000 in
theorem c_X8_ask_ok (V : VT) (ad : Nat → Nat → Nat) (X0 X1 X2 X3 X4 : S2) (Hs : Nat → S2) (L : Nat → Int32) (z : Nat) (b c d u lt sv : Int32) (A B : S2) (x s : Nat) (kp : Nat → Int32) (U Y : S2) (n o m k : Nat) (hC : okC X0 X3 X4 Hs z x s n o m k U) (t : S2 × S2 × S2 × Int32 × S2) (ht : fsN X0 U n o m k m (X2, A, B, sv, u2 Y 2 0 0) = t) (h1 : 1 < t.2.2.2.2 2 0) (c2 : Nat) (hc2 : t.2.2.2.2 2 0 = nI c2) (hc7 : c2 ≤ 7) : CI V yX8_ask cX8_ask 1 .int rm_X8_ask_ok [.ref (ad 12 6)] ((List.flatten [wMain ad, wRing V (ad 0) X0, wRing V (ad 1) X1, wRing V (ad 2) X2, wTx V (ad 11) L (nI z) b c d u, wRd (ad 12 0) (ad 11 0) lt, wSd (ad 12 1) (ad 13 0) (ad 14 0) sv, wCopy V (ad 13) A, wCopy V (ad 14) B, wHi (ad 12 2) (ad 12 3) (nI x) (nI s), wRs V (ad 12 3) 6 (fun j_ => ad (5 + j_) 0), wRing V (ad 5) (Hs 0), wRing V (ad 6) (Hs 1), wRing V (ad 7) (Hs 2), wRing V (ad 8) (Hs 3), wRing V (ad 9) (Hs 4), wRing V (ad 10) (Hs 5), wRs V (ad 12 4) 2 (fun j_ => ad (3 + j_) 0), wRing V (ad 3) X3, wRing V (ad 4) X4, wKz V (ad 12 5) kp, wSight V (ad 15) U, wSusp V (ad 16) Y])) (fun r_ w_ => r_ = (yBe t.2.2.2.2 c2 5).1 ∧ w_ = (List.flatten [wMain ad, wRing V (ad 0) X0, wRing V (ad 1) X1, wRing V (ad 2) t.1, wTx V (ad 11) L (nI z) b c d u, wRd (ad 12 0) (ad 11 0) lt, wSd (ad 12 1) (ad 13 0) (ad 14 0) t.2.2.2.1, wCopy V (ad 13) t.2.1, wCopy V (ad 14) t.2.2.1, wHi (ad 12 2) (ad 12 3) (nI x) (nI s), wRs V (ad 12 3) 6 (fun j_ => ad (5 + j_) 0), wRing V (ad 5) (Hs 0), wRing V (ad 6) (Hs 1), wRing V (ad 7) (Hs 2), wRing V (ad 8) (Hs 3), wRing V (ad 9) (Hs 4), wRing V (ad 10) (Hs 5), wRs V (ad 12 4) 2 (fun j_ => ad (3 + j_) 0), wRing V (ad 3) X3, wRing V (ad 4) X4, wKz V (ad 12 5) kp, wSight V (ad 15) U, wSusp V (ad 16) t.2.2.2.2])) := by
  refine CI_intro (by decide) (Nat.le_of_ble_eq_true rfl) (fun K cx hret => ?_)
  show G V K 1 0 0 ((List.flatten [wMain ad, wRing V (ad 0) X0, wRing V (ad 1) X1, wRing V (ad 2) X2, wTx V (ad 11) L (nI z) b c d u, wRd (ad 12 0) (ad 11 0) lt, wSd (ad 12 1) (ad 13 0) (ad 14 0) sv, wCopy V (ad 13) A, wCopy V (ad 14) B, wHi (ad 12 2) (ad 12 3) (nI x) (nI s), wRs V (ad 12 3) 6 (fun j_ => ad (5 + j_) 0), wRing V (ad 5) (Hs 0), wRing V (ad 6) (Hs 1), wRing V (ad 7) (Hs 2), wRing V (ad 8) (Hs 3), wRing V (ad 9) (Hs 4), wRing V (ad 10) (Hs 5), wRs V (ad 12 4) 2 (fun j_ => ad (3 + j_) 0), wRing V (ad 3) X3, wRing V (ad 4) X4, wKz V (ad 12 5) kp, wSight V (ad 15) U, wSusp V (ad 16) Y])) 0 [(0, .ref (ad 12 6))] []
  have hC0 := hC
  obtain ⟨hz, hx, hs, hn, hn6, hn1, ho, ho4, hm, hm7, hat, hbR, hbH, hbI, hk, hk6, hU⟩ := hC0
  refine g_aload_n (v := ad 12 6) cx dX8_ask_0 rfl ?_
  refine w_callv (ws' := (List.flatten [wMain ad, wRing V (ad 0) X0, wRing V (ad 1) X1, wRing V (ad 2) ((fsN X0 U n o m k m (X2, A, B, sv, u2 Y 2 0 0)).1), wTx V (ad 11) L (nI z) b c d u, wRd (ad 12 0) (ad 11 0) lt, wSd (ad 12 1) (ad 13 0) (ad 14 0) ((fsN X0 U n o m k m (X2, A, B, sv, u2 Y 2 0 0)).2.2.2.1), wCopy V (ad 13) ((fsN X0 U n o m k m (X2, A, B, sv, u2 Y 2 0 0)).2.1), wCopy V (ad 14) ((fsN X0 U n o m k m (X2, A, B, sv, u2 Y 2 0 0)).2.2.1), wHi (ad 12 2) (ad 12 3) (nI x) (nI s), wRs V (ad 12 3) 6 (fun j_ => ad (5 + j_) 0), wRing V (ad 5) (Hs 0), wRing V (ad 6) (Hs 1), wRing V (ad 7) (Hs 2), wRing V (ad 8) (Hs 3), wRing V (ad 9) (Hs 4), wRing V (ad 10) (Hs 5), wRs V (ad 12 4) 2 (fun j_ => ad (3 + j_) 0), wRing V (ad 3) X3, wRing V (ad 4) X4, wKz V (ad 12 5) kp, wSight V (ad 15) U, wSusp V (ad 16) ((fsN X0 U n o m k m (X2, A, B, sv, u2 Y 2 0 0)).2.2.2.2)])) (As := []) (rest := []) cx (c_X8_findSuspects_all V ad X0 X1 X2 X3 X4 Hs L z b c d u lt sv A B x s kp U Y n o m k hC) ml_X8_207 dX8_ask_1 (q0 := 0) rfl rfl rfl rfl rfl (Nat.le_of_ble_eq_true rfl) ⟨Nat.le_of_ble_eq_true rfl, Nat.le_of_ble_eq_true rfl⟩ ⟨Nat.le_refl _, Nat.le_refl _⟩ ?_
  rw [ht]
  refine g_aload_n (v := ad 12 6) cx dX8_ask_4 rfl ?_
  refine b_get (v := .ref (ad 16 0)) cx fk_X8_70 dX8_ask_5 0 0 rfl rfl rfl ?_
  refine b_get (v := .int (t.2.2.2.2 2 0)) cx fk_X8_210 dX8_ask_8 22 0 rfl rfl rfl ?_
  refine g_iconst (v := 1) cx dX8_ask_11 (by decide) ?_
  refine g_icmp_gt cx 20 dX8_ask_12 (by decide) (fun hw1 => ?_) (fun hw1 => absurd (h1) hw1)
  refine g_aload_n (v := ad 12 6) cx dX8_ask_20 rfl ?_
  refine b_get (v := .ref (ad 16 0)) cx fk_X8_70 dX8_ask_21 0 0 rfl rfl rfl ?_
  refine b_calli (r0 := (yBe t.2.2.2.2 c2 5).1) (Ws' := [wMain ad, wRing V (ad 0) X0, wRing V (ad 1) X1, wRing V (ad 2) t.1, wTx V (ad 11) L (nI z) b c d u, wRd (ad 12 0) (ad 11 0) lt, wSd (ad 12 1) (ad 13 0) (ad 14 0) t.2.2.2.1, wCopy V (ad 13) t.2.1, wCopy V (ad 14) t.2.2.1, wHi (ad 12 2) (ad 12 3) (nI x) (nI s), wRs V (ad 12 3) 6 (fun j_ => ad (5 + j_) 0), wRing V (ad 5) (Hs 0), wRing V (ad 6) (Hs 1), wRing V (ad 7) (Hs 2), wRing V (ad 8) (Hs 3), wRing V (ad 9) (Hs 4), wRing V (ad 10) (Hs 5), wRs V (ad 12 4) 2 (fun j_ => ad (3 + j_) 0), wRing V (ad 3) X3, wRing V (ad 4) X4, wKz V (ad 12 5) kp, wSight V (ad 15) U, wSusp V (ad 16) t.2.2.2.2]) (wcs := [wSusp V (ad 16) t.2.2.2.2]) (wos := [wSusp V (ad 16) t.2.2.2.2]) (As := []) (rest := []) cx (c_X6_bestLook V (ad 16) t.2.2.2.2 c2 hc2 hc7) ml_X8_214 dX8_ask_24 [22] rfl rfl (List.append_nil _) (List.append_nil _) [[ad 16 0, ad 16 1, ad 16 2]] rfl rfl rfl 0 0 6 rfl rfl rfl rfl rfl rfl (Nat.le_of_ble_eq_true rfl) ⟨Nat.le_of_ble_eq_true rfl, Nat.le_of_ble_eq_true rfl⟩ ⟨Nat.le_refl _, Nat.le_refl _⟩ ?_
  exact hret _ _ _ _ dX8_ask_27 (rfl) ⟨rfl, rfl⟩
