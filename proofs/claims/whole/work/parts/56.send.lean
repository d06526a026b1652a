/-! The pure equivalence: a frame is sent -/
theorem u3 {X : S2} {n : Nat} {a b c : Int32} : (u2 (u2 (u2 X 0 n a) 1 n b) 2 n c) 0 = upd (X 0) n a ∧ (u2 (u2 (u2 X 0 n a) 1 n b) 2 n c) 1 = upd (X 1) n b ∧ (u2 (u2 (u2 X 0 n a) 1 n b) 2 n c) 2 = upd (X 2) n c := ⟨rfl, rfl, rfl⟩
theorem cStart_at {R C : S2} : ∀ {n i : Nat}, i < n → cStart R C n 0 i = R 2 (i * 5 + 4) ∧ cStart R C n 1 i = 0 ∧ cStart R C n 2 i = R 2 (i * 5 + 2)
  | n + 1, i, hi => by
    have e : cStart R C (n + 1) = u2 (u2 (u2 (cStart R C n) 0 n (R 2 (n * 5 + 4))) 1 n 0) 2 n (R 2 (n * 5 + 2)) := rfl
    rw [e, u3.1, u3.2.1, u3.2.2]
    by_cases k : i = n
    · subst k; rw [pk_us, pk_us, pk_us]; exact ⟨rfl, rfl, rfl⟩
    · rw [pk_un k, pk_un k, pk_un k]; exact cStart_at (by omega)
theorem mBd_at {nw da : Nat → Int32} : ∀ {n k : Nat}, k < n → mBd nw da n k = nw (71 + 5 * (k % 4) + 4)
  | n + 1, k, hk => by
    have e : mBd nw da (n + 1) = upd (mBd nw da n) n (nw (71 + 5 * (n % 4) + 4)) := rfl
    rw [e]
    by_cases h : k = n
    · subst h; rw [pk_us]
    · rw [pk_un h]; exact mBd_at (by omega)
theorem mBc_at {co : Nat → Int32} : ∀ {n k : Nat}, k < n → mBc co n k = 0
  | n + 1, k, hk => by
    have e : mBc co (n + 1) = upd (mBc co n) n 0 := rfl
    rw [e]
    by_cases h : k = n
    · subst h; rw [pk_us]
    · rw [pk_un h]; exact mBc_at (by omega)
theorem mPl_at {nw pl : Nat → Int32} : ∀ {n k : Nat}, k < n → mPl nw pl n k = nw (71 + 5 * k + 2)
  | n + 1, k, hk => by
    have e : mPl nw pl (n + 1) = upd (mPl nw pl n) n (nw (71 + 5 * n + 2)) := rfl
    rw [e]
    by_cases h : k = n
    · subst h; rw [pk_us]
    · rw [pk_un h]; exact mPl_at (by omega)
theorem rRes_at {A B R : S2} : ∀ {n i : Nat}, i < n → rRes A B R n 3 (i * 2 + 0) = A 1 i + B 1 i ∧ rRes A B R n 3 (i * 2 + 1) = jD A B R i
  | n + 1, i, hi => by
    have e : rRes A B R (n + 1) 3 = upd (upd (rRes A B R n 3) (n * 2 + 0) (A 1 n + B 1 n)) (n * 2 + 1) (jD A B (rRes A B R n) n) := rfl
    have ej : jD A B (rRes A B R n) n = jD A B R n := by
      show (if rRes A B R n 2 (n * 5 + 0) = 114 ∧ rRes A B R n 2 (n * 5 + 1) = 98 then _ else _) = _
      rw [rRes_k (by decide)]
    rw [e, ej]
    by_cases k : i = n
    · subst k; rw [pk_us, pk_un (by omega), pk_us]; exact ⟨rfl, rfl⟩
    · rw [pk_un (by omega), pk_un (by omega), pk_un (by omega), pk_un (by omega)]; exact rRes_at (by omega)
theorem ar1 (x : Int32) {k : Nat} (hk : 1 ≤ k) : x + 2 * nI k - 1 = x + 2 * nI (k - 1) + 1 := by
  have a : 2 * nI k = nI (2 * k) := rf_mul (nl 2) rfl
  have b : 2 * nI (k - 1) = nI (2 * (k - 1)) := rf_mul (nl 2) rfl
  have c : nI (2 * k) - 1 = nI (2 * k - 1) := rf_sub rfl (nl 1) (by omega)
  have d : nI (2 * (k - 1)) + 1 = nI (2 * (k - 1) + 1) := nI_1 _
  rw [a, b]
  calc x + nI (2 * k) - 1 = x + (nI (2 * k) - 1) := by rw [Int32.sub_eq_add_neg, Int32.sub_eq_add_neg, Int32.add_assoc]
    _ = x + nI (2 * k - 1) := by rw [c]
    _ = x + nI (2 * (k - 1) + 1) := by rw [show 2 * k - 1 = 2 * (k - 1) + 1 by omega]
    _ = x + (nI (2 * (k - 1)) + 1) := by rw [d]
    _ = x + nI (2 * (k - 1)) + 1 := by rw [Int32.add_assoc]
theorem len_eq {X : S2} {nw : Nat → Int32} {c : Int32} {m v a l : Nat} (h : qLc (X 1) nw c m v) (hl : a + l ≤ m) : rLen X a l = mWay nw a l :=
  fl_cong l (fun i hi s => by rw [(h.2 (a + i) (by omega)).1])
theorem bw_nz : ∀ v, v < 128 → (nI v = 0 ↔ v = 0) := by decide +kernel
theorem fill2 {f : Nat → Int32} {v : Int32} : rFill f v 0 2 0 = v ∧ rFill f v 0 2 1 = v := by
  unfold rFill; rw [fl_fill]; exact ⟨rfl, rfl⟩
theorem whole_iff {X : S2} {nw : Nat → Int32} {c : Int32} {n m v : Nat} (hs : qS3 (X 5) nw n m) (hl : qLc (X 1) nw c m v) : (¬ X 5 4 = 0 ∧ rCuts X m = 0) ↔ (nw 1 = 1 ∧ c = 0) := by
  have hm := hs.m7
  have hv := bw_m hl.1.2 hm.2.1
  rw [rCuts_b hl m (Nat.le_refl m), bw_zero m (by omega) v hl.1.2, hl.1.1, bw_nz v hv]
  rcases hs.2 with ⟨c1, c2, _⟩ | ⟨c1, c2, _⟩
  · rw [c1, c2]; exact ⟨fun h => absurd rfl h.1, fun h => absurd h.1 (by decide)⟩
  · rw [c1, c2]; exact ⟨fun h => ⟨rfl, h.2⟩, fun h => ⟨by decide, h.2⟩⟩
theorem times_eq {X : S2} {nw : Nat → Int32} {c : Int32} {n m v : Nat} (hs : qS3 (X 5) nw n m) (hl : qLc (X 1) nw c m v) : (rTimes X n m) 4 0 = mTime nw c n 0 ∧ (rTimes X n m) 4 1 = mTime nw c n 1 := by
  have hm := hs.m7
  have hw := whole_iff hs hl
  obtain ⟨⟨a1, a2, a3⟩, cl⟩ := id hs
  unfold rTimes mTime
  by_cases w : nw 1 = 1 ∧ c = 0
  · rw [if_pos (hw.mpr w), if_pos w, if_pos w]
    have em : m = n + 1 := by
      rcases cl with ⟨_, c2, _⟩ | ⟨_, _, e⟩
      · rw [c2] at w; exact absurd w.1 (by decide)
      · exact e
    have e4 : rAround X n 4 = rFill (X 4) (rLen X 0 (n + 1) + X 5 0) 0 2 := rfl
    rw [e4, fill2.1, fill2.2, len_eq hl (by omega), a1, a2]
    exact ⟨rfl, rfl⟩
  · rw [if_neg (fun h => w (hw.mp h)), if_neg w, if_neg w, if_pos (show (0 : Nat) = 0 from rfl), if_neg (show ¬ (1 : Nat) = 0 by decide)]
    have e0 : rTimesT X n 4 0 = rTTB (rLen X 0 (eA X n)) (nI (eA X n)) := rfl
    have e1 : rTimesT X n 4 1 = rTTB (rLen X (sB X n + 1) (n - sB X n)) (X 5 0 - nI (sB X n)) := rfl
    have hE := eA_eq hl hm.2.2 hm.2.1
    have hB := (sB_eq hs hl).1
    have le1 := mA_le c n
    have le2 := mB_le nw c n
    rw [e0, e1, hE, hB, a1, a2]
    unfold rTTB
    refine ⟨?_, ?_⟩
    · by_cases z : mA c n = 0
      · rw [if_pos z, if_pos (by rw [z]; rfl)]
      · rw [if_neg z, if_neg (show ¬ nI (mA c n) = 0 from rf_eqMN rfl (nl 0) (by omega) (by omega) z), len_eq hl (by omega), show nI (mA c n) - 1 = nI (mA c n - 1) from rf_sub rfl (nl 1) (by omega)]
        exact ar1 _ (by omega)
    · rw [pk_sub le2]
      by_cases z : mB nw c n = n
      · rw [if_pos z, if_pos (by rw [z, Nat.sub_self]; rfl)]
      · have em : m = n + 1 := by
          rcases cl with ⟨_, c2, _⟩ | ⟨_, _, e⟩
          · exact absurd (by unfold mB; rw [if_pos c2]) z
          · exact e
        rw [if_neg z, if_neg (show ¬ nI (n - mB nw c n) = 0 from rf_eqMN rfl (nl 0) (by omega) (by omega) (by omega)), len_eq hl (by omega), show nI n - 1 = nI (n - 1) from rf_sub rfl (nl 1) (by omega), pk_sub (by omega), show n - 1 - mB nw c n = n - mB nw c n - 1 by omega]
        exact ar1 _ (by omega)
theorem mWay_cong {nw N : Nat → Int32} {a l : Nat} (h : ∀ k, k < 17 → N k = nw k) (hl : a + l ≤ 8) : mWay N a l = mWay nw a l := fl_cong l (fun i hi s => by rw [h (9 + (a + i)) (by omega)])
theorem mTime_cong {nw N : Nat → Int32} {c : Int32} {n q : Nat} (h : ∀ k, k < 17 → N k = nw k) (hn : n ≤ 6) : mTime N c n q = mTime nw c n q := by
  have eB : mB N c n = mB nw c n := by unfold mB; rw [h 1 (by decide)]
  have l1 := mA_le c n
  have l2 := mB_le nw c n
  unfold mTime
  rw [eB, h 0 (by decide), h 1 (by decide), mWay_cong (a := 0) (l := n + 1) h (by omega), mWay_cong (a := 0) (l := mA c n) h (by omega), mWay_cong (a := mB nw c n + 1) (l := n - mB nw c n) h (by omega)]
theorem sB_keep {R R' : S2} {n : Nat} (h : rKeep R R') : sB R' n = sB R n := by
  unfold sB sJ
  have e : (fun j => rCut R' (n - j)) = fun j => rCut R (n - j) := by
    funext j; unfold rCut; rw [h 1 (by decide)]
  rw [e, h 5 (by decide)]
theorem svm_0 {me : Nat → Int32} {n : Nat} (hn : n ≤ 6) : svm 0 (rFill me 0 0 6) n := ⟨0, by decide, rfl, fun d hd => by
  unfold rFill
  rw [fl_fill, Nat.zero_testBit]
  dsimp only
  rw [if_pos (by omega)]
  exact ⟨Or.inl rfl, fun h => absurd h (by decide), fun h => absurd h (by decide)⟩⟩
/-- what a frame that was sent leaves, on both sides -/
def SE (R S : S2) (sv : Int32) (nw : Nat → Int32) (c : Int32) (s : M5) (n o : Nat) : Prop :=
  (qDr (S 0) s.1 n ∧ mKeep nw s.1 ∧ svm sv s.2.2.2.2 n) ∧ (∀ i, i < o → S 3 (i * 2 + 0) = s.2.2.1 i + s.2.2.1 (4 + i) ∧ S 3 (i * 2 + 1) = mDat nw s.2.1 s.2.2.1 i) ∧ (S 4 0 = mTime nw c n 0 ∧ S 4 1 = mTime nw c n 1) ∧ (S 1 = R 1 ∧ S 2 = R 2 ∧ (∀ j, j ≠ 5 → S 5 j = R 5 j) ∧ S 5 5 = 1)
theorem send_eq {R A B : S2} {nw da co pl me : Nat → Int32} {c : Int32} {n o m v : Nat} (hs : qSc (R 4) (R 5) nw n o m) (hl : qLc (R 1) nw c m v) (hd : qDr (R 0) nw n) (ho : qOr (R 2) nw o) : SE R (snd 0 R A B n o m).2.2.1 (snd 0 R A B n o m).2.2.2 nw c (mSnd n o c nw da co pl me) n o := by
  have hm := hs.s3.m7
  have ho4 : o ≤ 4 := hs.2.1.2.2
  have hE := eA_eq hl hm.2.2 hm.2.1
  have hB := (sB_eq hs.s3 hl).1
  have le1 := mA_le c n
  have le2 := mB_le nw c n
  have hAM := okAM_of ho ho4
  have k1 := snd_k (v := 0) (R := R) (A := A) (B := B) (n := n) (o := o) (m := m) (k := 1) (by decide) (by decide) (by decide) (by decide)
  have k2 := snd_k (v := 0) (R := R) (A := A) (B := B) (n := n) (o := o) (m := m) (k := 2) (by decide) (by decide) (by decide) (by decide)
  have k5 := fun j hj => snd_5 (v := 0) (R := R) (A := A) (B := B) (n := n) (o := o) (m := m) (j := j) hj
  have kN := mSnd_keep (n := n) (o := o) (c := c) (nw := nw) (da := da) (co := co) (pl := pl) (me := me) hAM hm.1
  -- the first copy
  have p0 : PS 0 n o (cStart R A o, R, 0) (nw, mBd nw da 8, mBc co 8, mPl nw pl o, rFill me 0 0 6) := by
    refine ⟨⟨hd, ho, svm_0 hm.1⟩, fun i hi => ?_, fun i hi => ?_, fun i hi _ => ?_⟩
    · show cStart R A o 0 i = mBd nw da 8 (4 * 0 + i)
      rw [(cStart_at hi).1, mBd_at (by omega), show (4 * 0 + i) % 4 = i by omega]
      exact ((ho i hi).1 4 (by decide)).symm
    · show cStart R A o 1 i = mBc co 8 (4 * 0 + i)
      rw [(cStart_at hi).2.1, mBc_at (by omega)]
    · show cStart R A o 2 i = mPl nw pl o i
      rw [(cStart_at hi).2.2, mPl_at hi]
      exact ((ho i hi).1 2 (by decide)).symm
  have p1 := pass_eq (q := 0) (f := 0) (l := mA c n) (s0 := (nw, mBd nw da 8, mBc co 8, mPl nw pl o, rFill me 0 0 6)) hm.1 ho4 (by omega) ⟨p0, fun _ _ => ⟨rfl, rfl⟩⟩
  have eT : fl (fun d s => pAll o d s) (eA R n) (cStart R A o, R, 0) = fl (fun j t => pAll o (0 + j) t) (mA c n) (cStart R A o, R, 0) := by
    rw [hE]; exact fl_cong _ (fun i _ s => by rw [Nat.zero_add])
  have rk : rKeep R (fl (fun j t => pAll o (0 + j) t) (mA c n) (cStart R A o, R, 0)).2.1 := pl_keep (f := fun j => 0 + j) (mA c n) (s := (cStart R A o, R, 0))
  have nk : mKeep nw (fl (fun j s => mDr 0 o (0 + j) s) (mA c n) (nw, mBd nw da 8, mBc co 8, mPl nw pl o, rFill me 0 0 6)).1 := mPass_keep (s := (nw, mBd nw da 8, mBc co 8, mPl nw pl o, rFill me 0 0 6)) hAM (mA c n) (by omega)
  have eS : snd 0 R A B n o m = snd2 n o m (cStart R B o) (fl (fun j t => pAll o (0 + j) t) (mA c n) (cStart R A o, R, 0)) := by unfold snd; rw [eT]
  have eM : mSnd n o c nw da co pl me = mSnd2 n o c (fl (fun j s => mDr 0 o (0 + j) s) (mA c n) (nw, mBd nw da 8, mBc co 8, mPl nw pl o, rFill me 0 0 6)) := rfl
  rw [eS] at k1 k2 k5 ⊢
  rw [eM] at kN ⊢
  generalize fl (fun j t => pAll o (0 + j) t) (mA c n) (cStart R A o, R, 0) = T at *
  generalize fl (fun j s => mDr 0 o (0 + j) s) (mA c n) (nw, mBd nw da 8, mBc co 8, mPl nw pl o, rFill me 0 0 6) = P at *
  clear eT eS eM p0
  obtain ⟨⟨⟨q1, q2, q3⟩, q4, q5, q6⟩, q7⟩ := p1
  have r2 : T.2.1 2 = R 2 := rk 2 (by decide)
  -- the second copy
  have p2 : PS 1 n o (cStart R B o, T.2.1, T.2.2) (P.1, P.2.1, P.2.2.1, mPl P.1 P.2.2.2.1 o, P.2.2.2.2) := by
    refine ⟨⟨q1, q2, q3⟩, fun i hi => ?_, fun i hi => ?_, fun i hi _ => ?_⟩
    · show cStart R B o 0 i = P.2.1 (4 * 1 + i)
      rw [(cStart_at hi).1, (q7 (4 * 1 + i) (by omega)).1]
      show _ = mBd nw da 8 (4 * 1 + i)
      rw [mBd_at (by omega), show (4 * 1 + i) % 4 = i by omega]
      exact ((ho i hi).1 4 (by decide)).symm
    · show cStart R B o 1 i = P.2.2.1 (4 * 1 + i)
      rw [(cStart_at hi).2.1, (q7 (4 * 1 + i) (by omega)).2]
      exact (mBc_at (by omega)).symm
    · show cStart R B o 2 i = mPl P.1 P.2.2.2.1 o i
      rw [(cStart_at hi).2.2, mPl_at hi, nk _ (Or.inr (by omega))]
      exact ((ho i hi).1 2 (by decide)).symm
  have p3 := pass_eq (q := 1) (f := mB nw c n) (l := n - mB nw c n) (s0 := (P.1, P.2.1, P.2.2.1, mPl P.1 P.2.2.2.1 o, P.2.2.2.2)) hm.1 ho4 (by omega) ⟨p2, fun _ _ => ⟨rfl, rfl⟩⟩
  have eS2 : snd2 n o m (cStart R B o) T = snd3 n o m T.1 (fl (fun j t => pAll o (mB nw c n + j) t) (n - mB nw c n) (cStart R B o, T.2.1, T.2.2)) := by unfold snd2; rw [sB_keep rk, hB]
  have eM2 : mSnd2 n o c P = fl (fun j s => mDr 1 o (mB nw c n + j) s) (n - mB nw c n) (P.1, P.2.1, P.2.2.1, mPl P.1 P.2.2.2.1 o, P.2.2.2.2) := by unfold mSnd2; rw [mB_keep nk]; rfl
  rw [eS2] at k1 k2 k5 ⊢
  rw [eM2] at kN ⊢
  have rk2 : rKeep T.2.1 (fl (fun j t => pAll o (mB nw c n + j) t) (n - mB nw c n) (cStart R B o, T.2.1, T.2.2)).2.1 := pl_keep (f := fun j => mB nw c n + j) (n - mB nw c n) (s := (cStart R B o, T.2.1, T.2.2))
  generalize fl (fun j t => pAll o (mB nw c n + j) t) (n - mB nw c n) (cStart R B o, T.2.1, T.2.2) = T2 at *
  generalize fl (fun j s => mDr 1 o (mB nw c n + j) s) (n - mB nw c n) (P.1, P.2.1, P.2.2.1, mPl P.1 P.2.2.2.1 o, P.2.2.2.2) = P2 at *
  clear eS2 eM2 p2
  obtain ⟨⟨⟨s1, s2, s3⟩, s4, s5, s6⟩, s7⟩ := p3
  have t2 : T2.2.1 2 = R 2 := (rk2 2 (by decide)).trans r2
  have eX : (snd3 n o m T.1 T2).2.2.1 = rTimes (u2 (rRes T.1 T2.1 T2.2.1 o) 5 5 1) n m := rfl
  have x0 : (snd3 n o m T.1 T2).2.2.1 0 = T2.2.1 0 := by
    rw [eX, rTimes_k (by decide), u2_n (by decide), rRes_k (by decide)]
  have x3 : (snd3 n o m T.1 T2).2.2.1 3 = rRes T.1 T2.1 T2.2.1 o 3 := by
    rw [eX, rTimes_k (by decide), u2_n (by decide)]
  have x55 : (snd3 n o m T.1 T2).2.2.1 5 5 = 1 := by
    rw [eX, rTimes_k (by decide), u2_ss]
  have w1 : (u2 (rRes T.1 T2.1 T2.2.1 o) 5 5 1) 1 = R 1 := by
    rw [← k1, eX, rTimes_k (by decide)]
  have w5 : ∀ j, j ≠ 5 → (u2 (rRes T.1 T2.1 T2.2.1 o) 5 5 1) 5 j = R 5 j := fun j hj => by
    rw [← k5 j hj, eX, rTimes_k (by decide)]
  refine ⟨⟨by rw [x0]; exact s1, kN, s3⟩, fun i hi => ?_, ?_, k1, k2, k5, x55⟩
  · have u0 : T.1 0 i = P2.2.1 i := by
      rw [q4 i hi, (s7 i (by omega)).1, show 4 * 0 + i = i by omega]
    have u1 : T.1 1 i = P2.2.2.1 i := by
      rw [q5 i hi, (s7 i (by omega)).2, show 4 * 0 + i = i by omega]
    have u4 : T2.1 0 i = P2.2.1 (4 + i) := by rw [s4 i hi]
    have u5 : T2.1 1 i = P2.2.2.1 (4 + i) := by rw [s5 i hi]
    rw [x3, (rRes_at hi).1, (rRes_at hi).2]
    refine ⟨by rw [u1, u5], ?_⟩
    show (if T2.2.1 2 (i * 5 + 0) = 114 ∧ T2.2.1 2 (i * 5 + 1) = 98 then T.1 0 i ||| T2.1 0 i else if T2.1 1 i ≤ 0 then T.1 0 i else T2.1 0 i) = _
    unfold mDat
    rw [t2, u0, u4, u5, show nw (71 + 5 * i) = R 2 (i * 5 + 0) from (ho i hi).1 0 (by decide), show nw (71 + 5 * i + 1) = R 2 (i * 5 + 1) from (ho i hi).1 1 (by decide)]
  · rw [eX]
    refine times_eq (v := v) ?_ ?_
    · unfold qS3
      rw [w5 0 (by decide), w5 4 (by decide)]
      exact hs.s3
    · rw [w1]; exact hl
theorem mFct_at {nw co fa : Nat → Int32} {c : Int32} {n o : Nat} : ∀ {k i : Nat}, i < k → mFct nw co fa c n o k i = if i < 4 then mCnt nw co o i else mTime nw c n (i - 4)
  | k + 1, i, hi => by
    have e : mFct nw co fa c n o (k + 1) = upd (mFct nw co fa c n o k) k (if k < 4 then mCnt nw co o k else mTime nw c n (k - 4)) := rfl
    rw [e]
    by_cases h : i = k
    · subst h; rw [pk_us]
    · rw [pk_un h]; exact mFct_at (by omega)
/-- what has been served before changes nothing of a frame but what is served -/
theorem pAll_any {o d : Nat} {s t : S2 × S2 × Int32} (h : s.1 = t.1 ∧ s.2.1 = t.2.1) : (pAll o d s).1 = (pAll o d t).1 ∧ (pAll o d s).2.1 = (pAll o d t).2.1 :=
  fl_rel (σ := S2 × S2 × Int32) (τ := S2 × S2 × Int32) (f := pStep d) (g := pStep d) (fun s t => s.1 = t.1 ∧ s.2.1 = t.2.1) o h (fun i s t _ h => by
    obtain ⟨a, b, c⟩ := s
    obtain ⟨a', b', c'⟩ := t
    obtain ⟨h1, h2⟩ := h
    dsimp only at h1 h2
    subst h1; subst h2
    unfold pStep
    dsimp only
    split
    · exact ⟨rfl, rfl⟩
    · exact ⟨rfl, rfl⟩)
theorem snd_any (x y : Int32) {R A B : S2} {n o m : Nat} : (snd x R A B n o m).2.2.1 = (snd y R A B n o m).2.2.1 := by
  unfold snd
  have p := fl_rel (σ := S2 × S2 × Int32) (τ := S2 × S2 × Int32) (f := fun d s => pAll o d s) (g := fun d s => pAll o d s) (fun s t => s.1 = t.1 ∧ s.2.1 = t.2.1) (eA R n) (s := (cStart R A o, R, x)) (t := (cStart R A o, R, y)) ⟨rfl, rfl⟩ (fun i s t _ h => pAll_any h)
  generalize fl (fun d s => pAll o d s) (eA R n) (cStart R A o, R, x) = S at p ⊢
  generalize fl (fun d s => pAll o d s) (eA R n) (cStart R A o, R, y) = T at p ⊢
  obtain ⟨a, b, c⟩ := S
  obtain ⟨a', b', c'⟩ := T
  obtain ⟨h1, h2⟩ := p
  dsimp only at h1 h2
  subst h1; subst h2
  unfold snd2
  dsimp only
  have p := fl_rel (σ := S2 × S2 × Int32) (τ := S2 × S2 × Int32) (f := fun j t => pAll o (sB b n + j) t) (g := fun j t => pAll o (sB b n + j) t) (fun s t => s.1 = t.1 ∧ s.2.1 = t.2.1) (n - sB b n) (s := (cStart R B o, b, c)) (t := (cStart R B o, b, c')) ⟨rfl, rfl⟩ (fun i s t _ h => pAll_any h)
  generalize fl (fun j t => pAll o (sB b n + j) t) (n - sB b n) (cStart R B o, b, c) = S at p ⊢
  generalize fl (fun j t => pAll o (sB b n + j) t) (n - sB b n) (cStart R B o, b, c') = T at p ⊢
  obtain ⟨e, f, g⟩ := S
  obtain ⟨e', f', g'⟩ := T
  obtain ⟨h1, h2⟩ := p
  dsimp only at h1 h2
  subst h1; subst h2
  rfl
/-- what is seen of a frame -/
theorem facts_eq {x : Int32} {R A B : S2} {t : M7} {c : Int32} {n o m v : Nat} (hs : qSc (R 4) (R 5) t.1.1 n o m) (hl : qLc (R 1) t.1.1 c m v) (hd : qDr (R 0) t.1.1 n) (ho : qOr (R 2) t.1.1 o) : ∀ q, q < 6 → rLook (snd x R A B n o m).2.2.1 o q = (mFF n o c t).2.1 q := fun q hq => by
  obtain ⟨⟨nw, da, co, pl, me⟩, fa, ao⟩ := t
  dsimp only at hs hl hd ho
  rw [snd_any x 0]
  obtain ⟨_, h3, ⟨h40, h41⟩, _⟩ := send_eq (A := A) (B := B) (da := da) (co := co) (pl := pl) (me := me) hs hl hd ho
  have e : (mFF n o c ((nw, da, co, pl, me), fa, ao)).2.1 = mFct (mFF n o c ((nw, da, co, pl, me), fa, ao)).1.1 (mSnd n o c nw da co pl me).2.2.1 fa c n o 6 := rfl
  rw [e, mFct_at hq, mTime_cong (fun k hk => mFF_k k (by omega)) hs.s3.m7.1]
  unfold rLook mCnt
  by_cases h4 : q < 4
  · rw [if_pos h4, if_pos h4]
    by_cases ho : o ≤ q
    · rw [if_pos ho, if_neg (by omega)]
    · rw [if_neg ho, if_pos (by omega)]
      exact (h3 q (by omega)).1
  · rw [if_neg h4, if_neg h4]
    rcases (by omega : q = 4 ∨ q = 5) with rfl | rfl
    · exact h40
    · exact h41
