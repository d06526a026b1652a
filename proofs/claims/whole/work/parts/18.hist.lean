abbrev wHi (a b : Nat) (nx sz : Int32) : va_W := [(a, .inr (1, [.ref b, .int nx, .int sz]))]
abbrev wRs (V : VT) (b n : Nat) (f : Nat → Nat) : va_W := [(b, .inl (V.2.2 2, n, .inr (.inr (.inr (.inr (fun j => some (f j)))))))]
abbrev wKz (V : VT) (a : Nat) (f : Nat → Int32) : va_W := [(a, .inl (V.2.2 1, 2, .inl f))]
def hsz (s : Nat) : Nat := if 6 ≤ s then 6 else s + 1
theorem hsz_eq {s : Nat} (h : s ≤ 6) : (if (6 : Int32) < nI s + 1 then (6 : Int32) else nI s + 1) = nI (hsz s) := by
  rw [nI_1]
  unfold hsz
  by_cases c : 6 ≤ s
  · rw [if_pos c, if_pos (rf_ltMP (nl 6) rfl (by omega) (by omega) (by omega))]; rfl
  · rw [if_neg c, if_neg (rf_ltMN (nl 6) rfl (by omega) (by omega) (by omega))]
def okB (R : S2) : Prop := b01 (R 5 4) ∧ b01 (R 5 5) ∧ b01 (R 5 6)
def rm_X1_push : Room := { frames := 2, cells := 0, slots := 0, locals := 47 }
set_option maxRecDepth 100000 in
set_option maxHeartbeats 4000000 in
theorem c_X1_push (V : VT) (ha hb : Nat) (hr : Nat → Nat → Nat) (Hs : Nat → S2) (x s : Nat) (hx : x < 6) (hs : s ≤ 6) (ad : Nat → Nat) (R : S2) (hbR : okB R) : CV V yX1_push cX1_push 2 rm_X1_push [.ref ha, .ref (ad 0)] ((List.flatten [wHi ha hb (nI x) (nI s), wRs V hb 6 (fun j_ => hr j_ 0), wRing V (hr 0) (Hs 0), wRing V (hr 1) (Hs 1), wRing V (hr 2) (Hs 2), wRing V (hr 3) (Hs 3), wRing V (hr 4) (Hs 4), wRing V (hr 5) (Hs 5), wRing V ad R])) (fun w_ => w_ = (List.flatten [wHi ha hb (nI ((x + 1) % 6)) (nI (hsz s)), wRs V hb 6 (fun j_ => hr j_ 0), wRing V (hr 0) ((va_up Hs x (rCopy (Hs x) R)) 0), wRing V (hr 1) ((va_up Hs x (rCopy (Hs x) R)) 1), wRing V (hr 2) ((va_up Hs x (rCopy (Hs x) R)) 2), wRing V (hr 3) ((va_up Hs x (rCopy (Hs x) R)) 3), wRing V (hr 4) ((va_up Hs x (rCopy (Hs x) R)) 4), wRing V (hr 5) ((va_up Hs x (rCopy (Hs x) R)) 5), wRing V ad R])) := by
  refine CV_intro (by decide) (Nat.le_of_ble_eq_true rfl) (fun K cx hci hret => ?_)
  show G V K 2 0 0 ((List.flatten [wHi ha hb (nI x) (nI s), wRs V hb 6 (fun j_ => hr j_ 0), wRing V (hr 0) (Hs 0), wRing V (hr 1) (Hs 1), wRing V (hr 2) (Hs 2), wRing V (hr 3) (Hs 3), wRing V (hr 4) (Hs 4), wRing V (hr 5) (Hs 5), wRing V ad R])) 0 [(0, .ref ha), (1, .ref (ad 0))] []
  have h6 : x = 0 ∨ x = 1 ∨ x = 2 ∨ x = 3 ∨ x = 4 ∨ x = 5 := by omega
  rcases h6 with rfl | rfl | rfl | rfl | rfl | rfl
  · skip
    refine g_aload_n (v := ha) cx dX1_push_0 rfl ?_
    refine b_get (v := .ref hb) cx fk_X1_11 dX1_push_1 0 0 rfl rfl rfl ?_
    refine g_aload_n (v := ha) cx dX1_push_4 rfl ?_
    refine b_get (v := .int (nI 0)) cx fk_X1_18 dX1_push_5 0 0 rfl rfl rfl ?_
    refine b_aald (b := hr 0 0) cx dX1_push_8 1 0 0 rfl rfl (rfl) (by omega) (by decide) rfl ?_
    refine g_aload_n (v := ad 0) cx dX1_push_9 rfl ?_
    refine b_callv (Ws' := [wHi ha hb (nI 0) (nI s), wRs V hb 6 (fun j_ => hr j_ 0), wRing V (hr 0) (rCopy (Hs 0) R), wRing V (hr 1) (Hs 1), wRing V (hr 2) (Hs 2), wRing V (hr 3) (Hs 3), wRing V (hr 4) (Hs 4), wRing V (hr 5) (Hs 5), wRing V ad R]) (wcs := [wRing V (hr 0) (Hs 0), wRing V ad R]) (wos := [wRing V (hr 0) (rCopy (Hs 0) R), wRing V ad R]) (As := [.ref (ad 0)]) (rest := []) cx (c_X3_copyFrom V (hr 0) (Hs 0) ad R hbR.1 hbR.2.1 hbR.2.2) ml_X1_22 dX1_push_10 [2, 8] rfl rfl (by simp only [List.flatten_cons, List.flatten_nil, List.append_nil, List.append_assoc]) (by simp only [List.flatten_cons, List.flatten_nil, List.append_nil, List.append_assoc]) [[hr 0 0, hr 0 1, hr 0 2, hr 0 3, hr 0 4, hr 0 5], [ad 0, ad 1, ad 2, ad 3, ad 4, ad 5]] rfl rfl rfl 0 0 3 rfl rfl rfl rfl rfl rfl (Nat.le_of_ble_eq_true rfl) ⟨Nat.le_of_ble_eq_true rfl, Nat.le_of_ble_eq_true rfl⟩ ⟨Nat.le_refl _, Nat.le_refl _⟩ ?_
    refine g_aload_n (v := ha) cx dX1_push_13 rfl ?_
    refine g_aload_n (v := ha) cx dX1_push_14 rfl ?_
    refine b_get (v := .int (nI 0)) cx fk_X1_18 dX1_push_15 0 0 rfl rfl rfl ?_
    refine g_iconst (v := 1) cx dX1_push_18 (by decide) ?_
    refine g_iadd cx dX1_push_19 ?_
    refine g_bipush (v := 6) cx dX1_push_20 (by decide) ?_
    refine g_icmp_ge cx 34 dX1_push_22 (by decide) (fun hw1 => absurd hw1 (rf_geMN (rf_add rfl (nl 1)) (nl 6) (by omega) (by omega) (by omega))) (fun hw1 => ?_)
    refine g_aload_n (v := ha) cx dX1_push_25 rfl ?_
    refine b_get (v := .int (nI 0)) cx fk_X1_18 dX1_push_26 0 0 rfl rfl rfl ?_
    refine g_iconst (v := 1) cx dX1_push_29 (by decide) ?_
    refine g_iadd cx dX1_push_30 ?_
    refine g_goto cx 35 dX1_push_31 (by decide) ?_
    refine b_put (blk' := wHi ha hb ((nI 0) + 1) (nI s)) (Ws' := [wHi ha hb ((nI 0) + 1) (nI s), wRs V hb 6 (fun j_ => hr j_ 0), wRing V (hr 0) (rCopy (Hs 0) R), wRing V (hr 1) (Hs 1), wRing V (hr 2) (Hs 2), wRing V (hr 3) (Hs 3), wRing V (hr 4) (Hs 4), wRing V (hr 5) (Hs 5), wRing V ad R]) cx fk_X1_18 dX1_push_35 0 0 rfl rfl (rfl) (rfl) (Nat.le_of_ble_eq_true rfl) rfl rfl ?_
    refine g_aload_n (v := ha) cx dX1_push_38 rfl ?_
    refine g_aload_n (v := ha) cx dX1_push_39 rfl ?_
    refine b_get (v := .int (nI s)) cx fk_X1_26 dX1_push_40 0 0 rfl rfl rfl ?_
    refine g_iconst (v := 1) cx dX1_push_43 (by decide) ?_
    refine g_iadd cx dX1_push_44 ?_
    refine g_bipush (v := 6) cx dX1_push_45 (by decide) ?_
    refine g_mmin cx ml_X1_29 dX1_push_47 (Nat.le_of_ble_eq_true rfl) (Nat.le_of_ble_eq_true rfl) (Nat.zero_le _) (Nat.zero_le _) ?_
    refine g_top (y := nI (hsz s)) (hsz_eq hs) ?_
    refine b_put (blk' := wHi ha hb ((nI 0) + 1) (nI (hsz s))) (Ws' := [wHi ha hb ((nI 0) + 1) (nI (hsz s)), wRs V hb 6 (fun j_ => hr j_ 0), wRing V (hr 0) (rCopy (Hs 0) R), wRing V (hr 1) (Hs 1), wRing V (hr 2) (Hs 2), wRing V (hr 3) (Hs 3), wRing V (hr 4) (Hs 4), wRing V (hr 5) (Hs 5), wRing V ad R]) cx fk_X1_26 dX1_push_50 0 0 rfl rfl (rfl) (rfl) (Nat.le_of_ble_eq_true rfl) rfl rfl ?_
    exact hret _ _ _ dX1_push_53 (rfl)
  · skip
    refine g_aload_n (v := ha) cx dX1_push_0 rfl ?_
    refine b_get (v := .ref hb) cx fk_X1_11 dX1_push_1 0 0 rfl rfl rfl ?_
    refine g_aload_n (v := ha) cx dX1_push_4 rfl ?_
    refine b_get (v := .int (nI 1)) cx fk_X1_18 dX1_push_5 0 0 rfl rfl rfl ?_
    refine b_aald (b := hr 1 0) cx dX1_push_8 1 0 1 rfl rfl (rfl) (by omega) (by decide) rfl ?_
    refine g_aload_n (v := ad 0) cx dX1_push_9 rfl ?_
    refine b_callv (Ws' := [wHi ha hb (nI 1) (nI s), wRs V hb 6 (fun j_ => hr j_ 0), wRing V (hr 0) (Hs 0), wRing V (hr 1) (rCopy (Hs 1) R), wRing V (hr 2) (Hs 2), wRing V (hr 3) (Hs 3), wRing V (hr 4) (Hs 4), wRing V (hr 5) (Hs 5), wRing V ad R]) (wcs := [wRing V (hr 1) (Hs 1), wRing V ad R]) (wos := [wRing V (hr 1) (rCopy (Hs 1) R), wRing V ad R]) (As := [.ref (ad 0)]) (rest := []) cx (c_X3_copyFrom V (hr 1) (Hs 1) ad R hbR.1 hbR.2.1 hbR.2.2) ml_X1_22 dX1_push_10 [3, 8] rfl rfl (by simp only [List.flatten_cons, List.flatten_nil, List.append_nil, List.append_assoc]) (by simp only [List.flatten_cons, List.flatten_nil, List.append_nil, List.append_assoc]) [[hr 1 0, hr 1 1, hr 1 2, hr 1 3, hr 1 4, hr 1 5], [ad 0, ad 1, ad 2, ad 3, ad 4, ad 5]] rfl rfl rfl 0 0 3 rfl rfl rfl rfl rfl rfl (Nat.le_of_ble_eq_true rfl) ⟨Nat.le_of_ble_eq_true rfl, Nat.le_of_ble_eq_true rfl⟩ ⟨Nat.le_refl _, Nat.le_refl _⟩ ?_
    refine g_aload_n (v := ha) cx dX1_push_13 rfl ?_
    refine g_aload_n (v := ha) cx dX1_push_14 rfl ?_
    refine b_get (v := .int (nI 1)) cx fk_X1_18 dX1_push_15 0 0 rfl rfl rfl ?_
    refine g_iconst (v := 1) cx dX1_push_18 (by decide) ?_
    refine g_iadd cx dX1_push_19 ?_
    refine g_bipush (v := 6) cx dX1_push_20 (by decide) ?_
    refine g_icmp_ge cx 34 dX1_push_22 (by decide) (fun hw2 => absurd hw2 (rf_geMN (rf_add rfl (nl 1)) (nl 6) (by omega) (by omega) (by omega))) (fun hw2 => ?_)
    refine g_aload_n (v := ha) cx dX1_push_25 rfl ?_
    refine b_get (v := .int (nI 1)) cx fk_X1_18 dX1_push_26 0 0 rfl rfl rfl ?_
    refine g_iconst (v := 1) cx dX1_push_29 (by decide) ?_
    refine g_iadd cx dX1_push_30 ?_
    refine g_goto cx 35 dX1_push_31 (by decide) ?_
    refine b_put (blk' := wHi ha hb ((nI 1) + 1) (nI s)) (Ws' := [wHi ha hb ((nI 1) + 1) (nI s), wRs V hb 6 (fun j_ => hr j_ 0), wRing V (hr 0) (Hs 0), wRing V (hr 1) (rCopy (Hs 1) R), wRing V (hr 2) (Hs 2), wRing V (hr 3) (Hs 3), wRing V (hr 4) (Hs 4), wRing V (hr 5) (Hs 5), wRing V ad R]) cx fk_X1_18 dX1_push_35 0 0 rfl rfl (rfl) (rfl) (Nat.le_of_ble_eq_true rfl) rfl rfl ?_
    refine g_aload_n (v := ha) cx dX1_push_38 rfl ?_
    refine g_aload_n (v := ha) cx dX1_push_39 rfl ?_
    refine b_get (v := .int (nI s)) cx fk_X1_26 dX1_push_40 0 0 rfl rfl rfl ?_
    refine g_iconst (v := 1) cx dX1_push_43 (by decide) ?_
    refine g_iadd cx dX1_push_44 ?_
    refine g_bipush (v := 6) cx dX1_push_45 (by decide) ?_
    refine g_mmin cx ml_X1_29 dX1_push_47 (Nat.le_of_ble_eq_true rfl) (Nat.le_of_ble_eq_true rfl) (Nat.zero_le _) (Nat.zero_le _) ?_
    refine g_top (y := nI (hsz s)) (hsz_eq hs) ?_
    refine b_put (blk' := wHi ha hb ((nI 1) + 1) (nI (hsz s))) (Ws' := [wHi ha hb ((nI 1) + 1) (nI (hsz s)), wRs V hb 6 (fun j_ => hr j_ 0), wRing V (hr 0) (Hs 0), wRing V (hr 1) (rCopy (Hs 1) R), wRing V (hr 2) (Hs 2), wRing V (hr 3) (Hs 3), wRing V (hr 4) (Hs 4), wRing V (hr 5) (Hs 5), wRing V ad R]) cx fk_X1_26 dX1_push_50 0 0 rfl rfl (rfl) (rfl) (Nat.le_of_ble_eq_true rfl) rfl rfl ?_
    exact hret _ _ _ dX1_push_53 (rfl)
  · skip
    refine g_aload_n (v := ha) cx dX1_push_0 rfl ?_
    refine b_get (v := .ref hb) cx fk_X1_11 dX1_push_1 0 0 rfl rfl rfl ?_
    refine g_aload_n (v := ha) cx dX1_push_4 rfl ?_
    refine b_get (v := .int (nI 2)) cx fk_X1_18 dX1_push_5 0 0 rfl rfl rfl ?_
    refine b_aald (b := hr 2 0) cx dX1_push_8 1 0 2 rfl rfl (rfl) (by omega) (by decide) rfl ?_
    refine g_aload_n (v := ad 0) cx dX1_push_9 rfl ?_
    refine b_callv (Ws' := [wHi ha hb (nI 2) (nI s), wRs V hb 6 (fun j_ => hr j_ 0), wRing V (hr 0) (Hs 0), wRing V (hr 1) (Hs 1), wRing V (hr 2) (rCopy (Hs 2) R), wRing V (hr 3) (Hs 3), wRing V (hr 4) (Hs 4), wRing V (hr 5) (Hs 5), wRing V ad R]) (wcs := [wRing V (hr 2) (Hs 2), wRing V ad R]) (wos := [wRing V (hr 2) (rCopy (Hs 2) R), wRing V ad R]) (As := [.ref (ad 0)]) (rest := []) cx (c_X3_copyFrom V (hr 2) (Hs 2) ad R hbR.1 hbR.2.1 hbR.2.2) ml_X1_22 dX1_push_10 [4, 8] rfl rfl (by simp only [List.flatten_cons, List.flatten_nil, List.append_nil, List.append_assoc]) (by simp only [List.flatten_cons, List.flatten_nil, List.append_nil, List.append_assoc]) [[hr 2 0, hr 2 1, hr 2 2, hr 2 3, hr 2 4, hr 2 5], [ad 0, ad 1, ad 2, ad 3, ad 4, ad 5]] rfl rfl rfl 0 0 3 rfl rfl rfl rfl rfl rfl (Nat.le_of_ble_eq_true rfl) ⟨Nat.le_of_ble_eq_true rfl, Nat.le_of_ble_eq_true rfl⟩ ⟨Nat.le_refl _, Nat.le_refl _⟩ ?_
    refine g_aload_n (v := ha) cx dX1_push_13 rfl ?_
    refine g_aload_n (v := ha) cx dX1_push_14 rfl ?_
    refine b_get (v := .int (nI 2)) cx fk_X1_18 dX1_push_15 0 0 rfl rfl rfl ?_
    refine g_iconst (v := 1) cx dX1_push_18 (by decide) ?_
    refine g_iadd cx dX1_push_19 ?_
    refine g_bipush (v := 6) cx dX1_push_20 (by decide) ?_
    refine g_icmp_ge cx 34 dX1_push_22 (by decide) (fun hw3 => absurd hw3 (rf_geMN (rf_add rfl (nl 1)) (nl 6) (by omega) (by omega) (by omega))) (fun hw3 => ?_)
    refine g_aload_n (v := ha) cx dX1_push_25 rfl ?_
    refine b_get (v := .int (nI 2)) cx fk_X1_18 dX1_push_26 0 0 rfl rfl rfl ?_
    refine g_iconst (v := 1) cx dX1_push_29 (by decide) ?_
    refine g_iadd cx dX1_push_30 ?_
    refine g_goto cx 35 dX1_push_31 (by decide) ?_
    refine b_put (blk' := wHi ha hb ((nI 2) + 1) (nI s)) (Ws' := [wHi ha hb ((nI 2) + 1) (nI s), wRs V hb 6 (fun j_ => hr j_ 0), wRing V (hr 0) (Hs 0), wRing V (hr 1) (Hs 1), wRing V (hr 2) (rCopy (Hs 2) R), wRing V (hr 3) (Hs 3), wRing V (hr 4) (Hs 4), wRing V (hr 5) (Hs 5), wRing V ad R]) cx fk_X1_18 dX1_push_35 0 0 rfl rfl (rfl) (rfl) (Nat.le_of_ble_eq_true rfl) rfl rfl ?_
    refine g_aload_n (v := ha) cx dX1_push_38 rfl ?_
    refine g_aload_n (v := ha) cx dX1_push_39 rfl ?_
    refine b_get (v := .int (nI s)) cx fk_X1_26 dX1_push_40 0 0 rfl rfl rfl ?_
    refine g_iconst (v := 1) cx dX1_push_43 (by decide) ?_
    refine g_iadd cx dX1_push_44 ?_
    refine g_bipush (v := 6) cx dX1_push_45 (by decide) ?_
    refine g_mmin cx ml_X1_29 dX1_push_47 (Nat.le_of_ble_eq_true rfl) (Nat.le_of_ble_eq_true rfl) (Nat.zero_le _) (Nat.zero_le _) ?_
    refine g_top (y := nI (hsz s)) (hsz_eq hs) ?_
    refine b_put (blk' := wHi ha hb ((nI 2) + 1) (nI (hsz s))) (Ws' := [wHi ha hb ((nI 2) + 1) (nI (hsz s)), wRs V hb 6 (fun j_ => hr j_ 0), wRing V (hr 0) (Hs 0), wRing V (hr 1) (Hs 1), wRing V (hr 2) (rCopy (Hs 2) R), wRing V (hr 3) (Hs 3), wRing V (hr 4) (Hs 4), wRing V (hr 5) (Hs 5), wRing V ad R]) cx fk_X1_26 dX1_push_50 0 0 rfl rfl (rfl) (rfl) (Nat.le_of_ble_eq_true rfl) rfl rfl ?_
    exact hret _ _ _ dX1_push_53 (rfl)
  · skip
    refine g_aload_n (v := ha) cx dX1_push_0 rfl ?_
    refine b_get (v := .ref hb) cx fk_X1_11 dX1_push_1 0 0 rfl rfl rfl ?_
    refine g_aload_n (v := ha) cx dX1_push_4 rfl ?_
    refine b_get (v := .int (nI 3)) cx fk_X1_18 dX1_push_5 0 0 rfl rfl rfl ?_
    refine b_aald (b := hr 3 0) cx dX1_push_8 1 0 3 rfl rfl (rfl) (by omega) (by decide) rfl ?_
    refine g_aload_n (v := ad 0) cx dX1_push_9 rfl ?_
    refine b_callv (Ws' := [wHi ha hb (nI 3) (nI s), wRs V hb 6 (fun j_ => hr j_ 0), wRing V (hr 0) (Hs 0), wRing V (hr 1) (Hs 1), wRing V (hr 2) (Hs 2), wRing V (hr 3) (rCopy (Hs 3) R), wRing V (hr 4) (Hs 4), wRing V (hr 5) (Hs 5), wRing V ad R]) (wcs := [wRing V (hr 3) (Hs 3), wRing V ad R]) (wos := [wRing V (hr 3) (rCopy (Hs 3) R), wRing V ad R]) (As := [.ref (ad 0)]) (rest := []) cx (c_X3_copyFrom V (hr 3) (Hs 3) ad R hbR.1 hbR.2.1 hbR.2.2) ml_X1_22 dX1_push_10 [5, 8] rfl rfl (by simp only [List.flatten_cons, List.flatten_nil, List.append_nil, List.append_assoc]) (by simp only [List.flatten_cons, List.flatten_nil, List.append_nil, List.append_assoc]) [[hr 3 0, hr 3 1, hr 3 2, hr 3 3, hr 3 4, hr 3 5], [ad 0, ad 1, ad 2, ad 3, ad 4, ad 5]] rfl rfl rfl 0 0 3 rfl rfl rfl rfl rfl rfl (Nat.le_of_ble_eq_true rfl) ⟨Nat.le_of_ble_eq_true rfl, Nat.le_of_ble_eq_true rfl⟩ ⟨Nat.le_refl _, Nat.le_refl _⟩ ?_
    refine g_aload_n (v := ha) cx dX1_push_13 rfl ?_
    refine g_aload_n (v := ha) cx dX1_push_14 rfl ?_
    refine b_get (v := .int (nI 3)) cx fk_X1_18 dX1_push_15 0 0 rfl rfl rfl ?_
    refine g_iconst (v := 1) cx dX1_push_18 (by decide) ?_
    refine g_iadd cx dX1_push_19 ?_
    refine g_bipush (v := 6) cx dX1_push_20 (by decide) ?_
    refine g_icmp_ge cx 34 dX1_push_22 (by decide) (fun hw4 => absurd hw4 (rf_geMN (rf_add rfl (nl 1)) (nl 6) (by omega) (by omega) (by omega))) (fun hw4 => ?_)
    refine g_aload_n (v := ha) cx dX1_push_25 rfl ?_
    refine b_get (v := .int (nI 3)) cx fk_X1_18 dX1_push_26 0 0 rfl rfl rfl ?_
    refine g_iconst (v := 1) cx dX1_push_29 (by decide) ?_
    refine g_iadd cx dX1_push_30 ?_
    refine g_goto cx 35 dX1_push_31 (by decide) ?_
    refine b_put (blk' := wHi ha hb ((nI 3) + 1) (nI s)) (Ws' := [wHi ha hb ((nI 3) + 1) (nI s), wRs V hb 6 (fun j_ => hr j_ 0), wRing V (hr 0) (Hs 0), wRing V (hr 1) (Hs 1), wRing V (hr 2) (Hs 2), wRing V (hr 3) (rCopy (Hs 3) R), wRing V (hr 4) (Hs 4), wRing V (hr 5) (Hs 5), wRing V ad R]) cx fk_X1_18 dX1_push_35 0 0 rfl rfl (rfl) (rfl) (Nat.le_of_ble_eq_true rfl) rfl rfl ?_
    refine g_aload_n (v := ha) cx dX1_push_38 rfl ?_
    refine g_aload_n (v := ha) cx dX1_push_39 rfl ?_
    refine b_get (v := .int (nI s)) cx fk_X1_26 dX1_push_40 0 0 rfl rfl rfl ?_
    refine g_iconst (v := 1) cx dX1_push_43 (by decide) ?_
    refine g_iadd cx dX1_push_44 ?_
    refine g_bipush (v := 6) cx dX1_push_45 (by decide) ?_
    refine g_mmin cx ml_X1_29 dX1_push_47 (Nat.le_of_ble_eq_true rfl) (Nat.le_of_ble_eq_true rfl) (Nat.zero_le _) (Nat.zero_le _) ?_
    refine g_top (y := nI (hsz s)) (hsz_eq hs) ?_
    refine b_put (blk' := wHi ha hb ((nI 3) + 1) (nI (hsz s))) (Ws' := [wHi ha hb ((nI 3) + 1) (nI (hsz s)), wRs V hb 6 (fun j_ => hr j_ 0), wRing V (hr 0) (Hs 0), wRing V (hr 1) (Hs 1), wRing V (hr 2) (Hs 2), wRing V (hr 3) (rCopy (Hs 3) R), wRing V (hr 4) (Hs 4), wRing V (hr 5) (Hs 5), wRing V ad R]) cx fk_X1_26 dX1_push_50 0 0 rfl rfl (rfl) (rfl) (Nat.le_of_ble_eq_true rfl) rfl rfl ?_
    exact hret _ _ _ dX1_push_53 (rfl)
  · skip
    refine g_aload_n (v := ha) cx dX1_push_0 rfl ?_
    refine b_get (v := .ref hb) cx fk_X1_11 dX1_push_1 0 0 rfl rfl rfl ?_
    refine g_aload_n (v := ha) cx dX1_push_4 rfl ?_
    refine b_get (v := .int (nI 4)) cx fk_X1_18 dX1_push_5 0 0 rfl rfl rfl ?_
    refine b_aald (b := hr 4 0) cx dX1_push_8 1 0 4 rfl rfl (rfl) (by omega) (by decide) rfl ?_
    refine g_aload_n (v := ad 0) cx dX1_push_9 rfl ?_
    refine b_callv (Ws' := [wHi ha hb (nI 4) (nI s), wRs V hb 6 (fun j_ => hr j_ 0), wRing V (hr 0) (Hs 0), wRing V (hr 1) (Hs 1), wRing V (hr 2) (Hs 2), wRing V (hr 3) (Hs 3), wRing V (hr 4) (rCopy (Hs 4) R), wRing V (hr 5) (Hs 5), wRing V ad R]) (wcs := [wRing V (hr 4) (Hs 4), wRing V ad R]) (wos := [wRing V (hr 4) (rCopy (Hs 4) R), wRing V ad R]) (As := [.ref (ad 0)]) (rest := []) cx (c_X3_copyFrom V (hr 4) (Hs 4) ad R hbR.1 hbR.2.1 hbR.2.2) ml_X1_22 dX1_push_10 [6, 8] rfl rfl (by simp only [List.flatten_cons, List.flatten_nil, List.append_nil, List.append_assoc]) (by simp only [List.flatten_cons, List.flatten_nil, List.append_nil, List.append_assoc]) [[hr 4 0, hr 4 1, hr 4 2, hr 4 3, hr 4 4, hr 4 5], [ad 0, ad 1, ad 2, ad 3, ad 4, ad 5]] rfl rfl rfl 0 0 3 rfl rfl rfl rfl rfl rfl (Nat.le_of_ble_eq_true rfl) ⟨Nat.le_of_ble_eq_true rfl, Nat.le_of_ble_eq_true rfl⟩ ⟨Nat.le_refl _, Nat.le_refl _⟩ ?_
    refine g_aload_n (v := ha) cx dX1_push_13 rfl ?_
    refine g_aload_n (v := ha) cx dX1_push_14 rfl ?_
    refine b_get (v := .int (nI 4)) cx fk_X1_18 dX1_push_15 0 0 rfl rfl rfl ?_
    refine g_iconst (v := 1) cx dX1_push_18 (by decide) ?_
    refine g_iadd cx dX1_push_19 ?_
    refine g_bipush (v := 6) cx dX1_push_20 (by decide) ?_
    refine g_icmp_ge cx 34 dX1_push_22 (by decide) (fun hw5 => absurd hw5 (rf_geMN (rf_add rfl (nl 1)) (nl 6) (by omega) (by omega) (by omega))) (fun hw5 => ?_)
    refine g_aload_n (v := ha) cx dX1_push_25 rfl ?_
    refine b_get (v := .int (nI 4)) cx fk_X1_18 dX1_push_26 0 0 rfl rfl rfl ?_
    refine g_iconst (v := 1) cx dX1_push_29 (by decide) ?_
    refine g_iadd cx dX1_push_30 ?_
    refine g_goto cx 35 dX1_push_31 (by decide) ?_
    refine b_put (blk' := wHi ha hb ((nI 4) + 1) (nI s)) (Ws' := [wHi ha hb ((nI 4) + 1) (nI s), wRs V hb 6 (fun j_ => hr j_ 0), wRing V (hr 0) (Hs 0), wRing V (hr 1) (Hs 1), wRing V (hr 2) (Hs 2), wRing V (hr 3) (Hs 3), wRing V (hr 4) (rCopy (Hs 4) R), wRing V (hr 5) (Hs 5), wRing V ad R]) cx fk_X1_18 dX1_push_35 0 0 rfl rfl (rfl) (rfl) (Nat.le_of_ble_eq_true rfl) rfl rfl ?_
    refine g_aload_n (v := ha) cx dX1_push_38 rfl ?_
    refine g_aload_n (v := ha) cx dX1_push_39 rfl ?_
    refine b_get (v := .int (nI s)) cx fk_X1_26 dX1_push_40 0 0 rfl rfl rfl ?_
    refine g_iconst (v := 1) cx dX1_push_43 (by decide) ?_
    refine g_iadd cx dX1_push_44 ?_
    refine g_bipush (v := 6) cx dX1_push_45 (by decide) ?_
    refine g_mmin cx ml_X1_29 dX1_push_47 (Nat.le_of_ble_eq_true rfl) (Nat.le_of_ble_eq_true rfl) (Nat.zero_le _) (Nat.zero_le _) ?_
    refine g_top (y := nI (hsz s)) (hsz_eq hs) ?_
    refine b_put (blk' := wHi ha hb ((nI 4) + 1) (nI (hsz s))) (Ws' := [wHi ha hb ((nI 4) + 1) (nI (hsz s)), wRs V hb 6 (fun j_ => hr j_ 0), wRing V (hr 0) (Hs 0), wRing V (hr 1) (Hs 1), wRing V (hr 2) (Hs 2), wRing V (hr 3) (Hs 3), wRing V (hr 4) (rCopy (Hs 4) R), wRing V (hr 5) (Hs 5), wRing V ad R]) cx fk_X1_26 dX1_push_50 0 0 rfl rfl (rfl) (rfl) (Nat.le_of_ble_eq_true rfl) rfl rfl ?_
    exact hret _ _ _ dX1_push_53 (rfl)
  · skip
    refine g_aload_n (v := ha) cx dX1_push_0 rfl ?_
    refine b_get (v := .ref hb) cx fk_X1_11 dX1_push_1 0 0 rfl rfl rfl ?_
    refine g_aload_n (v := ha) cx dX1_push_4 rfl ?_
    refine b_get (v := .int (nI 5)) cx fk_X1_18 dX1_push_5 0 0 rfl rfl rfl ?_
    refine b_aald (b := hr 5 0) cx dX1_push_8 1 0 5 rfl rfl (rfl) (by omega) (by decide) rfl ?_
    refine g_aload_n (v := ad 0) cx dX1_push_9 rfl ?_
    refine b_callv (Ws' := [wHi ha hb (nI 5) (nI s), wRs V hb 6 (fun j_ => hr j_ 0), wRing V (hr 0) (Hs 0), wRing V (hr 1) (Hs 1), wRing V (hr 2) (Hs 2), wRing V (hr 3) (Hs 3), wRing V (hr 4) (Hs 4), wRing V (hr 5) (rCopy (Hs 5) R), wRing V ad R]) (wcs := [wRing V (hr 5) (Hs 5), wRing V ad R]) (wos := [wRing V (hr 5) (rCopy (Hs 5) R), wRing V ad R]) (As := [.ref (ad 0)]) (rest := []) cx (c_X3_copyFrom V (hr 5) (Hs 5) ad R hbR.1 hbR.2.1 hbR.2.2) ml_X1_22 dX1_push_10 [7, 8] rfl rfl (by simp only [List.flatten_cons, List.flatten_nil, List.append_nil, List.append_assoc]) (by simp only [List.flatten_cons, List.flatten_nil, List.append_nil, List.append_assoc]) [[hr 5 0, hr 5 1, hr 5 2, hr 5 3, hr 5 4, hr 5 5], [ad 0, ad 1, ad 2, ad 3, ad 4, ad 5]] rfl rfl rfl 0 0 3 rfl rfl rfl rfl rfl rfl (Nat.le_of_ble_eq_true rfl) ⟨Nat.le_of_ble_eq_true rfl, Nat.le_of_ble_eq_true rfl⟩ ⟨Nat.le_refl _, Nat.le_refl _⟩ ?_
    refine g_aload_n (v := ha) cx dX1_push_13 rfl ?_
    refine g_aload_n (v := ha) cx dX1_push_14 rfl ?_
    refine b_get (v := .int (nI 5)) cx fk_X1_18 dX1_push_15 0 0 rfl rfl rfl ?_
    refine g_iconst (v := 1) cx dX1_push_18 (by decide) ?_
    refine g_iadd cx dX1_push_19 ?_
    refine g_bipush (v := 6) cx dX1_push_20 (by decide) ?_
    refine g_icmp_ge cx 34 dX1_push_22 (by decide) (fun hw6 => ?_) (fun hw6 => absurd (rf_geMP (rf_add rfl (nl 1)) (nl 6) (by omega) (by omega) (by omega)) hw6)
    refine g_iconst (v := 0) cx dX1_push_34 (by decide) ?_
    refine b_put (blk' := wHi ha hb 0 (nI s)) (Ws' := [wHi ha hb 0 (nI s), wRs V hb 6 (fun j_ => hr j_ 0), wRing V (hr 0) (Hs 0), wRing V (hr 1) (Hs 1), wRing V (hr 2) (Hs 2), wRing V (hr 3) (Hs 3), wRing V (hr 4) (Hs 4), wRing V (hr 5) (rCopy (Hs 5) R), wRing V ad R]) cx fk_X1_18 dX1_push_35 0 0 rfl rfl (rfl) (rfl) (Nat.le_of_ble_eq_true rfl) rfl rfl ?_
    refine g_aload_n (v := ha) cx dX1_push_38 rfl ?_
    refine g_aload_n (v := ha) cx dX1_push_39 rfl ?_
    refine b_get (v := .int (nI s)) cx fk_X1_26 dX1_push_40 0 0 rfl rfl rfl ?_
    refine g_iconst (v := 1) cx dX1_push_43 (by decide) ?_
    refine g_iadd cx dX1_push_44 ?_
    refine g_bipush (v := 6) cx dX1_push_45 (by decide) ?_
    refine g_mmin cx ml_X1_29 dX1_push_47 (Nat.le_of_ble_eq_true rfl) (Nat.le_of_ble_eq_true rfl) (Nat.zero_le _) (Nat.zero_le _) ?_
    refine g_top (y := nI (hsz s)) (hsz_eq hs) ?_
    refine b_put (blk' := wHi ha hb 0 (nI (hsz s))) (Ws' := [wHi ha hb 0 (nI (hsz s)), wRs V hb 6 (fun j_ => hr j_ 0), wRing V (hr 0) (Hs 0), wRing V (hr 1) (Hs 1), wRing V (hr 2) (Hs 2), wRing V (hr 3) (Hs 3), wRing V (hr 4) (Hs 4), wRing V (hr 5) (rCopy (Hs 5) R), wRing V ad R]) cx fk_X1_26 dX1_push_50 0 0 rfl rfl (rfl) (rfl) (Nat.le_of_ble_eq_true rfl) rfl rfl ?_
    exact hret _ _ _ dX1_push_53 (rfl)
def rm_X1_pop : Room := { frames := 2, cells := 0, slots := 0, locals := 47 }
set_option maxRecDepth 100000 in
set_option maxHeartbeats 4000000 in
theorem c_X1_pop (V : VT) (ha hb : Nat) (hr : Nat → Nat → Nat) (Hs : Nat → S2) (x s : Nat) (hx : x < 6) (hs : s ≤ 6) (hs1 : 1 ≤ s) (ad : Nat → Nat) (R : S2) (hbH : ∀ j, j < 6 → okB (Hs j)) : CV V yX1_pop cX1_pop 2 rm_X1_pop [.ref ha, .ref (ad 0)] ((List.flatten [wHi ha hb (nI x) (nI s), wRs V hb 6 (fun j_ => hr j_ 0), wRing V (hr 0) (Hs 0), wRing V (hr 1) (Hs 1), wRing V (hr 2) (Hs 2), wRing V (hr 3) (Hs 3), wRing V (hr 4) (Hs 4), wRing V (hr 5) (Hs 5), wRing V ad R])) (fun w_ => w_ = (List.flatten [wHi ha hb (nI ((x + 5) % 6)) (nI (s - 1)), wRs V hb 6 (fun j_ => hr j_ 0), wRing V (hr 0) (Hs 0), wRing V (hr 1) (Hs 1), wRing V (hr 2) (Hs 2), wRing V (hr 3) (Hs 3), wRing V (hr 4) (Hs 4), wRing V (hr 5) (Hs 5), wRing V ad (rCopy R (Hs ((x + 5) % 6)))])) := by
  refine CV_intro (by decide) (Nat.le_of_ble_eq_true rfl) (fun K cx hci hret => ?_)
  show G V K 2 0 0 ((List.flatten [wHi ha hb (nI x) (nI s), wRs V hb 6 (fun j_ => hr j_ 0), wRing V (hr 0) (Hs 0), wRing V (hr 1) (Hs 1), wRing V (hr 2) (Hs 2), wRing V (hr 3) (Hs 3), wRing V (hr 4) (Hs 4), wRing V (hr 5) (Hs 5), wRing V ad R])) 0 [(0, .ref ha), (1, .ref (ad 0))] []
  have h6 : x = 0 ∨ x = 1 ∨ x = 2 ∨ x = 3 ∨ x = 4 ∨ x = 5 := by omega
  rcases h6 with rfl | rfl | rfl | rfl | rfl | rfl
  · skip
    refine g_aload_n (v := ha) cx dX1_pop_0 rfl ?_
    refine b_get (v := .int (nI s)) cx fk_X1_26 dX1_pop_1 0 0 rfl rfl rfl ?_
    refine g_if_le cx 51 dX1_pop_4 (by decide) (fun hw1 => absurd hw1 (rf_leMN rfl (nl 0) (by omega) (by omega) (by omega))) (fun hw1 => ?_)
    refine g_aload_n (v := ha) cx dX1_pop_7 rfl ?_
    refine g_aload_n (v := ha) cx dX1_pop_8 rfl ?_
    refine b_get (v := .int (nI 0)) cx fk_X1_18 dX1_pop_9 0 0 rfl rfl rfl ?_
    refine g_if_le cx 24 dX1_pop_12 (by decide) (fun hw2 => ?_) (fun hw2 => absurd (rf_leMP rfl (nl 0) (by omega) (by omega) (by omega)) hw2)
    refine g_iconst (v := 5) cx dX1_pop_24 (by decide) ?_
    refine b_put (blk' := wHi ha hb 5 (nI s)) (Ws' := [wHi ha hb 5 (nI s), wRs V hb 6 (fun j_ => hr j_ 0), wRing V (hr 0) (Hs 0), wRing V (hr 1) (Hs 1), wRing V (hr 2) (Hs 2), wRing V (hr 3) (Hs 3), wRing V (hr 4) (Hs 4), wRing V (hr 5) (Hs 5), wRing V ad R]) cx fk_X1_18 dX1_pop_25 0 0 rfl rfl (rfl) (rfl) (Nat.le_of_ble_eq_true rfl) rfl rfl ?_
    refine g_aload_n (v := ha) cx dX1_pop_28 rfl ?_
    refine g_dup cx dX1_pop_29 rfl ?_
    refine b_get (v := .int (nI s)) cx fk_X1_26 dX1_pop_30 0 0 rfl rfl rfl ?_
    refine g_iconst (v := 1) cx dX1_pop_33 (by decide) ?_
    refine g_isub cx dX1_pop_34 ?_
    refine g_top (y := nI (s - 1)) (rf_sub rfl (nl 1) (by omega)) ?_
    refine b_put (blk' := wHi ha hb 5 (nI (s - 1))) (Ws' := [wHi ha hb 5 (nI (s - 1)), wRs V hb 6 (fun j_ => hr j_ 0), wRing V (hr 0) (Hs 0), wRing V (hr 1) (Hs 1), wRing V (hr 2) (Hs 2), wRing V (hr 3) (Hs 3), wRing V (hr 4) (Hs 4), wRing V (hr 5) (Hs 5), wRing V ad R]) cx fk_X1_26 dX1_pop_35 0 0 rfl rfl (rfl) (rfl) (Nat.le_of_ble_eq_true rfl) rfl rfl ?_
    refine g_aload_n (v := ad 0) cx dX1_pop_38 rfl ?_
    refine g_aload_n (v := ha) cx dX1_pop_39 rfl ?_
    refine b_get (v := .ref hb) cx fk_X1_11 dX1_pop_40 0 0 rfl rfl rfl ?_
    refine g_aload_n (v := ha) cx dX1_pop_43 rfl ?_
    refine b_get (v := .int 5) cx fk_X1_18 dX1_pop_44 0 0 rfl rfl rfl ?_
    refine b_aald (b := hr 5 0) cx dX1_pop_47 1 0 5 rfl rfl (nl 5) (by omega) (by decide) rfl ?_
    refine b_callv (Ws' := [wHi ha hb 5 (nI (s - 1)), wRs V hb 6 (fun j_ => hr j_ 0), wRing V (hr 0) (Hs 0), wRing V (hr 1) (Hs 1), wRing V (hr 2) (Hs 2), wRing V (hr 3) (Hs 3), wRing V (hr 4) (Hs 4), wRing V (hr 5) (Hs 5), wRing V ad (rCopy R (Hs 5))]) (wcs := [wRing V ad R, wRing V (hr 5) (Hs 5)]) (wos := [wRing V ad (rCopy R (Hs 5)), wRing V (hr 5) (Hs 5)]) (As := [.ref (hr 5 0)]) (rest := []) cx (c_X3_copyFrom V ad R (hr 5) (Hs 5) (hbH 5 (by decide)).1 (hbH 5 (by decide)).2.1 (hbH 5 (by decide)).2.2) ml_X1_22 dX1_pop_48 [8, 7] rfl rfl (by simp only [List.flatten_cons, List.flatten_nil, List.append_nil, List.append_assoc]) (by simp only [List.flatten_cons, List.flatten_nil, List.append_nil, List.append_assoc]) [[ad 0, ad 1, ad 2, ad 3, ad 4, ad 5], [hr 5 0, hr 5 1, hr 5 2, hr 5 3, hr 5 4, hr 5 5]] rfl rfl rfl 0 0 3 rfl rfl rfl rfl rfl rfl (Nat.le_of_ble_eq_true rfl) ⟨Nat.le_of_ble_eq_true rfl, Nat.le_of_ble_eq_true rfl⟩ ⟨Nat.le_refl _, Nat.le_refl _⟩ ?_
    exact hret _ _ _ dX1_pop_51 (rfl)
  · skip
    refine g_aload_n (v := ha) cx dX1_pop_0 rfl ?_
    refine b_get (v := .int (nI s)) cx fk_X1_26 dX1_pop_1 0 0 rfl rfl rfl ?_
    refine g_if_le cx 51 dX1_pop_4 (by decide) (fun hw3 => absurd hw3 (rf_leMN rfl (nl 0) (by omega) (by omega) (by omega))) (fun hw3 => ?_)
    refine g_aload_n (v := ha) cx dX1_pop_7 rfl ?_
    refine g_aload_n (v := ha) cx dX1_pop_8 rfl ?_
    refine b_get (v := .int (nI 1)) cx fk_X1_18 dX1_pop_9 0 0 rfl rfl rfl ?_
    refine g_if_le cx 24 dX1_pop_12 (by decide) (fun hw4 => absurd hw4 (rf_leMN rfl (nl 0) (by omega) (by omega) (by omega))) (fun hw4 => ?_)
    refine g_aload_n (v := ha) cx dX1_pop_15 rfl ?_
    refine b_get (v := .int (nI 1)) cx fk_X1_18 dX1_pop_16 0 0 rfl rfl rfl ?_
    refine g_iconst (v := 1) cx dX1_pop_19 (by decide) ?_
    refine g_isub cx dX1_pop_20 ?_
    refine g_top (y := nI 0) (rf_sub rfl (nl 1) (by omega)) ?_
    refine g_goto cx 25 dX1_pop_21 (by decide) ?_
    refine b_put (blk' := wHi ha hb (nI 0) (nI s)) (Ws' := [wHi ha hb (nI 0) (nI s), wRs V hb 6 (fun j_ => hr j_ 0), wRing V (hr 0) (Hs 0), wRing V (hr 1) (Hs 1), wRing V (hr 2) (Hs 2), wRing V (hr 3) (Hs 3), wRing V (hr 4) (Hs 4), wRing V (hr 5) (Hs 5), wRing V ad R]) cx fk_X1_18 dX1_pop_25 0 0 rfl rfl (rfl) (rfl) (Nat.le_of_ble_eq_true rfl) rfl rfl ?_
    refine g_aload_n (v := ha) cx dX1_pop_28 rfl ?_
    refine g_dup cx dX1_pop_29 rfl ?_
    refine b_get (v := .int (nI s)) cx fk_X1_26 dX1_pop_30 0 0 rfl rfl rfl ?_
    refine g_iconst (v := 1) cx dX1_pop_33 (by decide) ?_
    refine g_isub cx dX1_pop_34 ?_
    refine g_top (y := nI (s - 1)) (rf_sub rfl (nl 1) (by omega)) ?_
    refine b_put (blk' := wHi ha hb (nI 0) (nI (s - 1))) (Ws' := [wHi ha hb (nI 0) (nI (s - 1)), wRs V hb 6 (fun j_ => hr j_ 0), wRing V (hr 0) (Hs 0), wRing V (hr 1) (Hs 1), wRing V (hr 2) (Hs 2), wRing V (hr 3) (Hs 3), wRing V (hr 4) (Hs 4), wRing V (hr 5) (Hs 5), wRing V ad R]) cx fk_X1_26 dX1_pop_35 0 0 rfl rfl (rfl) (rfl) (Nat.le_of_ble_eq_true rfl) rfl rfl ?_
    refine g_aload_n (v := ad 0) cx dX1_pop_38 rfl ?_
    refine g_aload_n (v := ha) cx dX1_pop_39 rfl ?_
    refine b_get (v := .ref hb) cx fk_X1_11 dX1_pop_40 0 0 rfl rfl rfl ?_
    refine g_aload_n (v := ha) cx dX1_pop_43 rfl ?_
    refine b_get (v := .int (nI 0)) cx fk_X1_18 dX1_pop_44 0 0 rfl rfl rfl ?_
    refine b_aald (b := hr 0 0) cx dX1_pop_47 1 0 0 rfl rfl (rfl) (by omega) (by decide) rfl ?_
    refine b_callv (Ws' := [wHi ha hb (nI 0) (nI (s - 1)), wRs V hb 6 (fun j_ => hr j_ 0), wRing V (hr 0) (Hs 0), wRing V (hr 1) (Hs 1), wRing V (hr 2) (Hs 2), wRing V (hr 3) (Hs 3), wRing V (hr 4) (Hs 4), wRing V (hr 5) (Hs 5), wRing V ad (rCopy R (Hs 0))]) (wcs := [wRing V ad R, wRing V (hr 0) (Hs 0)]) (wos := [wRing V ad (rCopy R (Hs 0)), wRing V (hr 0) (Hs 0)]) (As := [.ref (hr 0 0)]) (rest := []) cx (c_X3_copyFrom V ad R (hr 0) (Hs 0) (hbH 0 (by decide)).1 (hbH 0 (by decide)).2.1 (hbH 0 (by decide)).2.2) ml_X1_22 dX1_pop_48 [8, 2] rfl rfl (by simp only [List.flatten_cons, List.flatten_nil, List.append_nil, List.append_assoc]) (by simp only [List.flatten_cons, List.flatten_nil, List.append_nil, List.append_assoc]) [[ad 0, ad 1, ad 2, ad 3, ad 4, ad 5], [hr 0 0, hr 0 1, hr 0 2, hr 0 3, hr 0 4, hr 0 5]] rfl rfl rfl 0 0 3 rfl rfl rfl rfl rfl rfl (Nat.le_of_ble_eq_true rfl) ⟨Nat.le_of_ble_eq_true rfl, Nat.le_of_ble_eq_true rfl⟩ ⟨Nat.le_refl _, Nat.le_refl _⟩ ?_
    exact hret _ _ _ dX1_pop_51 (rfl)
  · skip
    refine g_aload_n (v := ha) cx dX1_pop_0 rfl ?_
    refine b_get (v := .int (nI s)) cx fk_X1_26 dX1_pop_1 0 0 rfl rfl rfl ?_
    refine g_if_le cx 51 dX1_pop_4 (by decide) (fun hw5 => absurd hw5 (rf_leMN rfl (nl 0) (by omega) (by omega) (by omega))) (fun hw5 => ?_)
    refine g_aload_n (v := ha) cx dX1_pop_7 rfl ?_
    refine g_aload_n (v := ha) cx dX1_pop_8 rfl ?_
    refine b_get (v := .int (nI 2)) cx fk_X1_18 dX1_pop_9 0 0 rfl rfl rfl ?_
    refine g_if_le cx 24 dX1_pop_12 (by decide) (fun hw6 => absurd hw6 (rf_leMN rfl (nl 0) (by omega) (by omega) (by omega))) (fun hw6 => ?_)
    refine g_aload_n (v := ha) cx dX1_pop_15 rfl ?_
    refine b_get (v := .int (nI 2)) cx fk_X1_18 dX1_pop_16 0 0 rfl rfl rfl ?_
    refine g_iconst (v := 1) cx dX1_pop_19 (by decide) ?_
    refine g_isub cx dX1_pop_20 ?_
    refine g_top (y := nI 1) (rf_sub rfl (nl 1) (by omega)) ?_
    refine g_goto cx 25 dX1_pop_21 (by decide) ?_
    refine b_put (blk' := wHi ha hb (nI 1) (nI s)) (Ws' := [wHi ha hb (nI 1) (nI s), wRs V hb 6 (fun j_ => hr j_ 0), wRing V (hr 0) (Hs 0), wRing V (hr 1) (Hs 1), wRing V (hr 2) (Hs 2), wRing V (hr 3) (Hs 3), wRing V (hr 4) (Hs 4), wRing V (hr 5) (Hs 5), wRing V ad R]) cx fk_X1_18 dX1_pop_25 0 0 rfl rfl (rfl) (rfl) (Nat.le_of_ble_eq_true rfl) rfl rfl ?_
    refine g_aload_n (v := ha) cx dX1_pop_28 rfl ?_
    refine g_dup cx dX1_pop_29 rfl ?_
    refine b_get (v := .int (nI s)) cx fk_X1_26 dX1_pop_30 0 0 rfl rfl rfl ?_
    refine g_iconst (v := 1) cx dX1_pop_33 (by decide) ?_
    refine g_isub cx dX1_pop_34 ?_
    refine g_top (y := nI (s - 1)) (rf_sub rfl (nl 1) (by omega)) ?_
    refine b_put (blk' := wHi ha hb (nI 1) (nI (s - 1))) (Ws' := [wHi ha hb (nI 1) (nI (s - 1)), wRs V hb 6 (fun j_ => hr j_ 0), wRing V (hr 0) (Hs 0), wRing V (hr 1) (Hs 1), wRing V (hr 2) (Hs 2), wRing V (hr 3) (Hs 3), wRing V (hr 4) (Hs 4), wRing V (hr 5) (Hs 5), wRing V ad R]) cx fk_X1_26 dX1_pop_35 0 0 rfl rfl (rfl) (rfl) (Nat.le_of_ble_eq_true rfl) rfl rfl ?_
    refine g_aload_n (v := ad 0) cx dX1_pop_38 rfl ?_
    refine g_aload_n (v := ha) cx dX1_pop_39 rfl ?_
    refine b_get (v := .ref hb) cx fk_X1_11 dX1_pop_40 0 0 rfl rfl rfl ?_
    refine g_aload_n (v := ha) cx dX1_pop_43 rfl ?_
    refine b_get (v := .int (nI 1)) cx fk_X1_18 dX1_pop_44 0 0 rfl rfl rfl ?_
    refine b_aald (b := hr 1 0) cx dX1_pop_47 1 0 1 rfl rfl (rfl) (by omega) (by decide) rfl ?_
    refine b_callv (Ws' := [wHi ha hb (nI 1) (nI (s - 1)), wRs V hb 6 (fun j_ => hr j_ 0), wRing V (hr 0) (Hs 0), wRing V (hr 1) (Hs 1), wRing V (hr 2) (Hs 2), wRing V (hr 3) (Hs 3), wRing V (hr 4) (Hs 4), wRing V (hr 5) (Hs 5), wRing V ad (rCopy R (Hs 1))]) (wcs := [wRing V ad R, wRing V (hr 1) (Hs 1)]) (wos := [wRing V ad (rCopy R (Hs 1)), wRing V (hr 1) (Hs 1)]) (As := [.ref (hr 1 0)]) (rest := []) cx (c_X3_copyFrom V ad R (hr 1) (Hs 1) (hbH 1 (by decide)).1 (hbH 1 (by decide)).2.1 (hbH 1 (by decide)).2.2) ml_X1_22 dX1_pop_48 [8, 3] rfl rfl (by simp only [List.flatten_cons, List.flatten_nil, List.append_nil, List.append_assoc]) (by simp only [List.flatten_cons, List.flatten_nil, List.append_nil, List.append_assoc]) [[ad 0, ad 1, ad 2, ad 3, ad 4, ad 5], [hr 1 0, hr 1 1, hr 1 2, hr 1 3, hr 1 4, hr 1 5]] rfl rfl rfl 0 0 3 rfl rfl rfl rfl rfl rfl (Nat.le_of_ble_eq_true rfl) ⟨Nat.le_of_ble_eq_true rfl, Nat.le_of_ble_eq_true rfl⟩ ⟨Nat.le_refl _, Nat.le_refl _⟩ ?_
    exact hret _ _ _ dX1_pop_51 (rfl)
  · skip
    refine g_aload_n (v := ha) cx dX1_pop_0 rfl ?_
    refine b_get (v := .int (nI s)) cx fk_X1_26 dX1_pop_1 0 0 rfl rfl rfl ?_
    refine g_if_le cx 51 dX1_pop_4 (by decide) (fun hw7 => absurd hw7 (rf_leMN rfl (nl 0) (by omega) (by omega) (by omega))) (fun hw7 => ?_)
    refine g_aload_n (v := ha) cx dX1_pop_7 rfl ?_
    refine g_aload_n (v := ha) cx dX1_pop_8 rfl ?_
    refine b_get (v := .int (nI 3)) cx fk_X1_18 dX1_pop_9 0 0 rfl rfl rfl ?_
    refine g_if_le cx 24 dX1_pop_12 (by decide) (fun hw8 => absurd hw8 (rf_leMN rfl (nl 0) (by omega) (by omega) (by omega))) (fun hw8 => ?_)
    refine g_aload_n (v := ha) cx dX1_pop_15 rfl ?_
    refine b_get (v := .int (nI 3)) cx fk_X1_18 dX1_pop_16 0 0 rfl rfl rfl ?_
    refine g_iconst (v := 1) cx dX1_pop_19 (by decide) ?_
    refine g_isub cx dX1_pop_20 ?_
    refine g_top (y := nI 2) (rf_sub rfl (nl 1) (by omega)) ?_
    refine g_goto cx 25 dX1_pop_21 (by decide) ?_
    refine b_put (blk' := wHi ha hb (nI 2) (nI s)) (Ws' := [wHi ha hb (nI 2) (nI s), wRs V hb 6 (fun j_ => hr j_ 0), wRing V (hr 0) (Hs 0), wRing V (hr 1) (Hs 1), wRing V (hr 2) (Hs 2), wRing V (hr 3) (Hs 3), wRing V (hr 4) (Hs 4), wRing V (hr 5) (Hs 5), wRing V ad R]) cx fk_X1_18 dX1_pop_25 0 0 rfl rfl (rfl) (rfl) (Nat.le_of_ble_eq_true rfl) rfl rfl ?_
    refine g_aload_n (v := ha) cx dX1_pop_28 rfl ?_
    refine g_dup cx dX1_pop_29 rfl ?_
    refine b_get (v := .int (nI s)) cx fk_X1_26 dX1_pop_30 0 0 rfl rfl rfl ?_
    refine g_iconst (v := 1) cx dX1_pop_33 (by decide) ?_
    refine g_isub cx dX1_pop_34 ?_
    refine g_top (y := nI (s - 1)) (rf_sub rfl (nl 1) (by omega)) ?_
    refine b_put (blk' := wHi ha hb (nI 2) (nI (s - 1))) (Ws' := [wHi ha hb (nI 2) (nI (s - 1)), wRs V hb 6 (fun j_ => hr j_ 0), wRing V (hr 0) (Hs 0), wRing V (hr 1) (Hs 1), wRing V (hr 2) (Hs 2), wRing V (hr 3) (Hs 3), wRing V (hr 4) (Hs 4), wRing V (hr 5) (Hs 5), wRing V ad R]) cx fk_X1_26 dX1_pop_35 0 0 rfl rfl (rfl) (rfl) (Nat.le_of_ble_eq_true rfl) rfl rfl ?_
    refine g_aload_n (v := ad 0) cx dX1_pop_38 rfl ?_
    refine g_aload_n (v := ha) cx dX1_pop_39 rfl ?_
    refine b_get (v := .ref hb) cx fk_X1_11 dX1_pop_40 0 0 rfl rfl rfl ?_
    refine g_aload_n (v := ha) cx dX1_pop_43 rfl ?_
    refine b_get (v := .int (nI 2)) cx fk_X1_18 dX1_pop_44 0 0 rfl rfl rfl ?_
    refine b_aald (b := hr 2 0) cx dX1_pop_47 1 0 2 rfl rfl (rfl) (by omega) (by decide) rfl ?_
    refine b_callv (Ws' := [wHi ha hb (nI 2) (nI (s - 1)), wRs V hb 6 (fun j_ => hr j_ 0), wRing V (hr 0) (Hs 0), wRing V (hr 1) (Hs 1), wRing V (hr 2) (Hs 2), wRing V (hr 3) (Hs 3), wRing V (hr 4) (Hs 4), wRing V (hr 5) (Hs 5), wRing V ad (rCopy R (Hs 2))]) (wcs := [wRing V ad R, wRing V (hr 2) (Hs 2)]) (wos := [wRing V ad (rCopy R (Hs 2)), wRing V (hr 2) (Hs 2)]) (As := [.ref (hr 2 0)]) (rest := []) cx (c_X3_copyFrom V ad R (hr 2) (Hs 2) (hbH 2 (by decide)).1 (hbH 2 (by decide)).2.1 (hbH 2 (by decide)).2.2) ml_X1_22 dX1_pop_48 [8, 4] rfl rfl (by simp only [List.flatten_cons, List.flatten_nil, List.append_nil, List.append_assoc]) (by simp only [List.flatten_cons, List.flatten_nil, List.append_nil, List.append_assoc]) [[ad 0, ad 1, ad 2, ad 3, ad 4, ad 5], [hr 2 0, hr 2 1, hr 2 2, hr 2 3, hr 2 4, hr 2 5]] rfl rfl rfl 0 0 3 rfl rfl rfl rfl rfl rfl (Nat.le_of_ble_eq_true rfl) ⟨Nat.le_of_ble_eq_true rfl, Nat.le_of_ble_eq_true rfl⟩ ⟨Nat.le_refl _, Nat.le_refl _⟩ ?_
    exact hret _ _ _ dX1_pop_51 (rfl)
  · skip
    refine g_aload_n (v := ha) cx dX1_pop_0 rfl ?_
    refine b_get (v := .int (nI s)) cx fk_X1_26 dX1_pop_1 0 0 rfl rfl rfl ?_
    refine g_if_le cx 51 dX1_pop_4 (by decide) (fun hw9 => absurd hw9 (rf_leMN rfl (nl 0) (by omega) (by omega) (by omega))) (fun hw9 => ?_)
    refine g_aload_n (v := ha) cx dX1_pop_7 rfl ?_
    refine g_aload_n (v := ha) cx dX1_pop_8 rfl ?_
    refine b_get (v := .int (nI 4)) cx fk_X1_18 dX1_pop_9 0 0 rfl rfl rfl ?_
    refine g_if_le cx 24 dX1_pop_12 (by decide) (fun hw10 => absurd hw10 (rf_leMN rfl (nl 0) (by omega) (by omega) (by omega))) (fun hw10 => ?_)
    refine g_aload_n (v := ha) cx dX1_pop_15 rfl ?_
    refine b_get (v := .int (nI 4)) cx fk_X1_18 dX1_pop_16 0 0 rfl rfl rfl ?_
    refine g_iconst (v := 1) cx dX1_pop_19 (by decide) ?_
    refine g_isub cx dX1_pop_20 ?_
    refine g_top (y := nI 3) (rf_sub rfl (nl 1) (by omega)) ?_
    refine g_goto cx 25 dX1_pop_21 (by decide) ?_
    refine b_put (blk' := wHi ha hb (nI 3) (nI s)) (Ws' := [wHi ha hb (nI 3) (nI s), wRs V hb 6 (fun j_ => hr j_ 0), wRing V (hr 0) (Hs 0), wRing V (hr 1) (Hs 1), wRing V (hr 2) (Hs 2), wRing V (hr 3) (Hs 3), wRing V (hr 4) (Hs 4), wRing V (hr 5) (Hs 5), wRing V ad R]) cx fk_X1_18 dX1_pop_25 0 0 rfl rfl (rfl) (rfl) (Nat.le_of_ble_eq_true rfl) rfl rfl ?_
    refine g_aload_n (v := ha) cx dX1_pop_28 rfl ?_
    refine g_dup cx dX1_pop_29 rfl ?_
    refine b_get (v := .int (nI s)) cx fk_X1_26 dX1_pop_30 0 0 rfl rfl rfl ?_
    refine g_iconst (v := 1) cx dX1_pop_33 (by decide) ?_
    refine g_isub cx dX1_pop_34 ?_
    refine g_top (y := nI (s - 1)) (rf_sub rfl (nl 1) (by omega)) ?_
    refine b_put (blk' := wHi ha hb (nI 3) (nI (s - 1))) (Ws' := [wHi ha hb (nI 3) (nI (s - 1)), wRs V hb 6 (fun j_ => hr j_ 0), wRing V (hr 0) (Hs 0), wRing V (hr 1) (Hs 1), wRing V (hr 2) (Hs 2), wRing V (hr 3) (Hs 3), wRing V (hr 4) (Hs 4), wRing V (hr 5) (Hs 5), wRing V ad R]) cx fk_X1_26 dX1_pop_35 0 0 rfl rfl (rfl) (rfl) (Nat.le_of_ble_eq_true rfl) rfl rfl ?_
    refine g_aload_n (v := ad 0) cx dX1_pop_38 rfl ?_
    refine g_aload_n (v := ha) cx dX1_pop_39 rfl ?_
    refine b_get (v := .ref hb) cx fk_X1_11 dX1_pop_40 0 0 rfl rfl rfl ?_
    refine g_aload_n (v := ha) cx dX1_pop_43 rfl ?_
    refine b_get (v := .int (nI 3)) cx fk_X1_18 dX1_pop_44 0 0 rfl rfl rfl ?_
    refine b_aald (b := hr 3 0) cx dX1_pop_47 1 0 3 rfl rfl (rfl) (by omega) (by decide) rfl ?_
    refine b_callv (Ws' := [wHi ha hb (nI 3) (nI (s - 1)), wRs V hb 6 (fun j_ => hr j_ 0), wRing V (hr 0) (Hs 0), wRing V (hr 1) (Hs 1), wRing V (hr 2) (Hs 2), wRing V (hr 3) (Hs 3), wRing V (hr 4) (Hs 4), wRing V (hr 5) (Hs 5), wRing V ad (rCopy R (Hs 3))]) (wcs := [wRing V ad R, wRing V (hr 3) (Hs 3)]) (wos := [wRing V ad (rCopy R (Hs 3)), wRing V (hr 3) (Hs 3)]) (As := [.ref (hr 3 0)]) (rest := []) cx (c_X3_copyFrom V ad R (hr 3) (Hs 3) (hbH 3 (by decide)).1 (hbH 3 (by decide)).2.1 (hbH 3 (by decide)).2.2) ml_X1_22 dX1_pop_48 [8, 5] rfl rfl (by simp only [List.flatten_cons, List.flatten_nil, List.append_nil, List.append_assoc]) (by simp only [List.flatten_cons, List.flatten_nil, List.append_nil, List.append_assoc]) [[ad 0, ad 1, ad 2, ad 3, ad 4, ad 5], [hr 3 0, hr 3 1, hr 3 2, hr 3 3, hr 3 4, hr 3 5]] rfl rfl rfl 0 0 3 rfl rfl rfl rfl rfl rfl (Nat.le_of_ble_eq_true rfl) ⟨Nat.le_of_ble_eq_true rfl, Nat.le_of_ble_eq_true rfl⟩ ⟨Nat.le_refl _, Nat.le_refl _⟩ ?_
    exact hret _ _ _ dX1_pop_51 (rfl)
  · skip
    refine g_aload_n (v := ha) cx dX1_pop_0 rfl ?_
    refine b_get (v := .int (nI s)) cx fk_X1_26 dX1_pop_1 0 0 rfl rfl rfl ?_
    refine g_if_le cx 51 dX1_pop_4 (by decide) (fun hw11 => absurd hw11 (rf_leMN rfl (nl 0) (by omega) (by omega) (by omega))) (fun hw11 => ?_)
    refine g_aload_n (v := ha) cx dX1_pop_7 rfl ?_
    refine g_aload_n (v := ha) cx dX1_pop_8 rfl ?_
    refine b_get (v := .int (nI 5)) cx fk_X1_18 dX1_pop_9 0 0 rfl rfl rfl ?_
    refine g_if_le cx 24 dX1_pop_12 (by decide) (fun hw12 => absurd hw12 (rf_leMN rfl (nl 0) (by omega) (by omega) (by omega))) (fun hw12 => ?_)
    refine g_aload_n (v := ha) cx dX1_pop_15 rfl ?_
    refine b_get (v := .int (nI 5)) cx fk_X1_18 dX1_pop_16 0 0 rfl rfl rfl ?_
    refine g_iconst (v := 1) cx dX1_pop_19 (by decide) ?_
    refine g_isub cx dX1_pop_20 ?_
    refine g_top (y := nI 4) (rf_sub rfl (nl 1) (by omega)) ?_
    refine g_goto cx 25 dX1_pop_21 (by decide) ?_
    refine b_put (blk' := wHi ha hb (nI 4) (nI s)) (Ws' := [wHi ha hb (nI 4) (nI s), wRs V hb 6 (fun j_ => hr j_ 0), wRing V (hr 0) (Hs 0), wRing V (hr 1) (Hs 1), wRing V (hr 2) (Hs 2), wRing V (hr 3) (Hs 3), wRing V (hr 4) (Hs 4), wRing V (hr 5) (Hs 5), wRing V ad R]) cx fk_X1_18 dX1_pop_25 0 0 rfl rfl (rfl) (rfl) (Nat.le_of_ble_eq_true rfl) rfl rfl ?_
    refine g_aload_n (v := ha) cx dX1_pop_28 rfl ?_
    refine g_dup cx dX1_pop_29 rfl ?_
    refine b_get (v := .int (nI s)) cx fk_X1_26 dX1_pop_30 0 0 rfl rfl rfl ?_
    refine g_iconst (v := 1) cx dX1_pop_33 (by decide) ?_
    refine g_isub cx dX1_pop_34 ?_
    refine g_top (y := nI (s - 1)) (rf_sub rfl (nl 1) (by omega)) ?_
    refine b_put (blk' := wHi ha hb (nI 4) (nI (s - 1))) (Ws' := [wHi ha hb (nI 4) (nI (s - 1)), wRs V hb 6 (fun j_ => hr j_ 0), wRing V (hr 0) (Hs 0), wRing V (hr 1) (Hs 1), wRing V (hr 2) (Hs 2), wRing V (hr 3) (Hs 3), wRing V (hr 4) (Hs 4), wRing V (hr 5) (Hs 5), wRing V ad R]) cx fk_X1_26 dX1_pop_35 0 0 rfl rfl (rfl) (rfl) (Nat.le_of_ble_eq_true rfl) rfl rfl ?_
    refine g_aload_n (v := ad 0) cx dX1_pop_38 rfl ?_
    refine g_aload_n (v := ha) cx dX1_pop_39 rfl ?_
    refine b_get (v := .ref hb) cx fk_X1_11 dX1_pop_40 0 0 rfl rfl rfl ?_
    refine g_aload_n (v := ha) cx dX1_pop_43 rfl ?_
    refine b_get (v := .int (nI 4)) cx fk_X1_18 dX1_pop_44 0 0 rfl rfl rfl ?_
    refine b_aald (b := hr 4 0) cx dX1_pop_47 1 0 4 rfl rfl (rfl) (by omega) (by decide) rfl ?_
    refine b_callv (Ws' := [wHi ha hb (nI 4) (nI (s - 1)), wRs V hb 6 (fun j_ => hr j_ 0), wRing V (hr 0) (Hs 0), wRing V (hr 1) (Hs 1), wRing V (hr 2) (Hs 2), wRing V (hr 3) (Hs 3), wRing V (hr 4) (Hs 4), wRing V (hr 5) (Hs 5), wRing V ad (rCopy R (Hs 4))]) (wcs := [wRing V ad R, wRing V (hr 4) (Hs 4)]) (wos := [wRing V ad (rCopy R (Hs 4)), wRing V (hr 4) (Hs 4)]) (As := [.ref (hr 4 0)]) (rest := []) cx (c_X3_copyFrom V ad R (hr 4) (Hs 4) (hbH 4 (by decide)).1 (hbH 4 (by decide)).2.1 (hbH 4 (by decide)).2.2) ml_X1_22 dX1_pop_48 [8, 6] rfl rfl (by simp only [List.flatten_cons, List.flatten_nil, List.append_nil, List.append_assoc]) (by simp only [List.flatten_cons, List.flatten_nil, List.append_nil, List.append_assoc]) [[ad 0, ad 1, ad 2, ad 3, ad 4, ad 5], [hr 4 0, hr 4 1, hr 4 2, hr 4 3, hr 4 4, hr 4 5]] rfl rfl rfl 0 0 3 rfl rfl rfl rfl rfl rfl (Nat.le_of_ble_eq_true rfl) ⟨Nat.le_of_ble_eq_true rfl, Nat.le_of_ble_eq_true rfl⟩ ⟨Nat.le_refl _, Nat.le_refl _⟩ ?_
    exact hret _ _ _ dX1_pop_51 (rfl)
