/-! The pure equivalence: cycles -/
def rLm (R : S2) : Prop := ¬ R 5 2 < 1
theorem RQ_dr {R R' : S2} {nw nw' : Nat → Int32} {n o m v : Nat} (h : RQ R nw n o m v) (hk : rKeep R R') (hN : mKeep nw nw') (hd : qDr (R' 0) nw' n) : RQ R' nw' n o m v := by
  obtain ⟨h1, h2, _, h4, h5⟩ := h
  have hm := h1.m7
  have ho4 := h1.2.1.2.2
  obtain ⟨⟨a1, a2, a3⟩, ⟨b1, b2, b3⟩, c, ⟨d1, d2, d3, d4, d5, d6⟩, f⟩ := h1
  have n0 := hN 0 (Or.inl (by decide))
  have n1 := hN 1 (Or.inl (by decide))
  have n2 := hN 2 (Or.inl (by decide))
  have n3 := hN 3 (Or.inl (by decide))
  have n4 := hN 4 (Or.inl (by decide))
  have n5 := hN 5 (Or.inl (by decide))
  have n6 := hN 6 (Or.inl (by decide))
  have n7 := hN 7 (Or.inl (by decide))
  have n8 := hN 8 (Or.inl (by decide))
  have n16 := hN 16 (Or.inl (by decide))
  refine ⟨?_, ?_, hd, ?_, ?_⟩
  · rw [hk 4 (by decide), hk 5 (by decide)]
    exact ⟨⟨a1, by rw [n0]; exact a2, a3⟩, ⟨b1, by rw [n3]; exact b2, b3⟩, by rw [n1]; exact c, ⟨by rw [n2]; exact d1, by rw [n4]; exact d2, by rw [n7]; exact d3, by rw [n8]; exact d4, by rw [n5]; exact d5, by rw [n6]; exact d6⟩, f⟩
  · rw [hk 1 (by decide)]
    exact ⟨by rw [n16]; exact h2.1, fun k hk => by rw [hN (9 + k) (Or.inl (by omega))]; exact h2.2 k hk⟩
  · rw [hk 2 (by decide)]
    exact qOr_row h4 ho4 (fun k hk _ => hN k (Or.inr hk))
  · rw [hk 5 (by decide), hk 3 (by decide)]
    exact fun h i hi c hc => by rw [hN _ (Or.inr (by omega))]; exact h5 h i hi c hc
theorem tick_step {S : S2} {N me : Nat → Int32} {sv : Int32} {n d : Nat} (hn : n ≤ 6) (hd : d < n) (hsv : svm sv me n) (h : qDr (S 0) N n) (hl : S 5 2 = N 2) (h1 : ¬ N 2 < 1) : qDr ((if (sv >>> (nI d &&& 31)) &&& 1 = 1 then u2 S 0 (d * 9 + 5) 0 else rMiss S d) 0) (mTk me d N) n := by
  have hb := svm_bit hsv hn hd
  obtain ⟨w, _, _, hw⟩ := hsv
  obtain ⟨f, fs⟩ := h d hd
  have f5 := f 5 (by decide)
  have f6 := f 6 (by decide)
  have k5 : mTk1 me N d (17 + 9 * d + 5) = if me d = 0 then N (17 + 9 * d + 5) + 1 else 0 := by unfold mTk1; rw [pk_us]
  have k2 : mTk1 me N d 2 = N 2 := by unfold mTk1; rw [pk_un (by omega)]
  have k6 : mTk1 me N d (17 + 9 * d + 6) = N (17 + 9 * d + 6) := by unfold mTk1; rw [pk_un (by omega)]
  unfold mTk
  rw [k5, k2, k6]
  by_cases b : (sv >>> (nI d &&& 31)) &&& 1 = 1
  · have m1 : ¬ me d = 0 := by rw [hb.mp b]; decide
    have l0 : (0 : Int32) < N 2 := Int32.lt_of_lt_of_le (by decide) (Int32.not_lt.mp h1)
    rw [if_pos b, if_neg m1, if_pos l0]
    unfold mTk1
    rw [if_neg m1]
    exact qDr_put h (by decide) (fun h => absurd h (by decide))
  · have m0 : me d = 0 := (hw d hd).1.resolve_right (fun e => b (hb.mpr e))
    rw [if_neg b, if_pos m0]
    have hM : mTk1 me N d = upd N (17 + 9 * d + 5) (S 0 (d * 9 + 5) + 1) := by unfold mTk1; rw [if_pos m0, f5]
    have q1 : qDr (rM1 S d 0) (mTk1 me N d) n := by
      rw [hM]
      exact qDr_put (c := 5) h (by decide) (fun h => absurd h (by decide))
    unfold rMiss
    rw [f5, hl]
    by_cases c : S 0 (d * 9 + 5) + 1 < N 2
    · rw [if_pos c, if_pos c]; exact q1
    · rw [if_neg c, if_neg c]
      have e6 : rM1 S d 0 (d * 9 + 6) = S 0 (d * 9 + 6) := by
        show upd (S 0) (d * 9 + 5) _ (d * 9 + 6) = _
        rw [pk_un (by omega)]
      rw [e6, f6]
      rcases fs with z | z
      · rw [if_neg (by rw [z]; decide), if_pos z]
        refine fl_rel (f := fun i S => u2 S 0 (d * 9 + (1 + i)) 0) (g := fun k N => upd N (17 + 9 * d + 1 + k) 0) (fun (S : S2) N => qDr (S 0) N n) 4 ?_ (fun i S M hi hq => ?_)
        · exact qDr_put (c := 6) q1 (by decide) (fun _ => Or.inr rfl)
        · show qDr (upd (S 0) (d * 9 + (1 + i)) 0) _ _
          rw [show 17 + 9 * d + 1 + i = 17 + 9 * d + (1 + i) by omega]
          exact qDr_put hq (by omega) (by omega)
      · rw [if_pos z, if_neg (by rw [z]; decide)]; exact q1
theorem tick_eq {S : S2} {N me : Nat → Int32} {sv : Int32} {n : Nat} (hn : n ≤ 6) (hsv : svm sv me n) (h : qDr (S 0) N n) (hl : S 5 2 = N 2) (h1 : ¬ N 2 < 1) : qDr (rTick sv S n 0) (mTick me n N) n :=
  (fl_rel (f := fun d S => if (sv >>> (nI d &&& 31)) &&& 1 = 1 then u2 S 0 (d * 9 + 5) 0 else rMiss S d) (g := mTk me) (fun (S : S2) M => qDr (S 0) M n ∧ S 5 2 = M 2 ∧ M 2 = N 2) n ⟨h, hl, rfl⟩ (fun d S M hd hq => by
    have e2 : mTk me d M 2 = M 2 := mTk_keep (by omega) 2 (Or.inl (by decide))
    refine ⟨tick_step hn hd hsv hq.1 hq.2.1 (by rw [hq.2.2]; exact h1), ?_, by rw [e2]; exact hq.2.2⟩
    rw [e2]
    split
    · rw [u2_n (by decide)]; exact hq.2.1
    · rw [rMiss_k (by decide)]; exact hq.2.1)).1
theorem cyc_fin {R S : S2} {sv : Int32} {nw N me : Nat → Int32} {n o m v : Nat} (h : RQ R nw n o m v) (hlim : rLm R) (hS1 : S 1 = R 1) (hS2 : S 2 = R 2) (hS5 : ∀ j, j ≠ 5 → S 5 j = R 5 j) (hS55 : S 5 5 = 1) (hd : qDr (S 0) N n) (hsv : svm sv me n) (hN : mCk nw N) (h4 : N 4 = 1) (h8 : N 8 = 0) (h7 : N 7 = nw 7 + 1) (h5 : N 5 = S 4 0) (h6 : N 6 = S 4 1) (hr : ∀ i, i < o → ∀ c, c < 2 → N (91 + 2 * i + c) = S 3 (i * 2 + c)) : RQ (cEnd (rTick sv S n)) (mTick me n N) n o m v := by
  obtain ⟨g1, g2, _, g4, _⟩ := h
  have hm := g1.m7
  have ho4 := g1.2.1.2.2
  obtain ⟨⟨a1, a2, a3⟩, ⟨b1, b2, b3⟩, c, ⟨d1, d2, d3, d4, d5, d6⟩, f⟩ := g1
  have lim : S 5 2 = N 2 := by rw [hS5 2 (by decide), hN 2 (by omega)]; exact d1.symm
  have td := tick_eq a3 hsv hd lim (by rw [hN 2 (by omega), d1]; exact hlim)
  have tk := mTick_keep (me := me) (N := N) n a3
  generalize mTick me n N = N' at td tk
  have e0 : cEnd (rTick sv S n) 0 = rTick sv S n 0 := rfl
  have e1 : cEnd (rTick sv S n) 1 = R 1 := by rw [← hS1]; exact rTick_k (by decide) n
  have e2 : cEnd (rTick sv S n) 2 = R 2 := by rw [← hS2]; exact rTick_k (by decide) n
  have e3 : cEnd (rTick sv S n) 3 = S 3 := rTick_k (by decide) n
  have e4 : cEnd (rTick sv S n) 4 = S 4 := rTick_k (by decide) n
  have e5 : cEnd (rTick sv S n) 5 = upd (upd (S 5) 6 0) 3 (S 5 3 + 1) := by
    show upd (upd (rTick sv S n 5) 6 0) 3 (rTick sv S n 5 3 + 1) = _
    rw [rTick_k (by decide)]
  have m0 : N' 0 = nw 0 := (tk 0 (Or.inl (by decide))).trans (hN 0 (by omega))
  have m1 : N' 1 = nw 1 := (tk 1 (Or.inl (by decide))).trans (hN 1 (by omega))
  have m2 : N' 2 = nw 2 := (tk 2 (Or.inl (by decide))).trans (hN 2 (by omega))
  have m3 : N' 3 = nw 3 := (tk 3 (Or.inl (by decide))).trans (hN 3 (by omega))
  have m16 : N' 16 = nw 16 := (tk 16 (Or.inl (by decide))).trans (hN 16 (by omega))
  have m4 : N' 4 = 1 := (tk 4 (Or.inl (by decide))).trans h4
  have m5 : N' 5 = S 4 0 := (tk 5 (Or.inl (by decide))).trans h5
  have m6 : N' 6 = S 4 1 := (tk 6 (Or.inl (by decide))).trans h6
  have m7 : N' 7 = nw 7 + 1 := (tk 7 (Or.inl (by decide))).trans h7
  have m8 : N' 8 = 0 := (tk 8 (Or.inl (by decide))).trans h8
  refine ⟨?_, ?_, by rw [e0]; exact td, ?_, ?_⟩
  · rw [e4, e5]
    refine ⟨⟨by rw [pk_un (by decide), pk_un (by decide), hS5 0 (by decide)]; exact a1, by rw [m0]; exact a2, a3⟩, ⟨by rw [pk_un (by decide), pk_un (by decide), hS5 1 (by decide)]; exact b1, by rw [m3]; exact b2, b3⟩, ?_, ⟨?_, ?_, ?_, ?_, m5, m6⟩, ?_, ?_⟩
    · rw [pk_un (by decide), pk_un (by decide), hS5 4 (by decide), m1]; exact c
    · rw [pk_un (by decide), pk_un (by decide), hS5 2 (by decide), m2]; exact d1
    · rw [pk_un (by decide), pk_un (by decide), hS55, m4]
    · rw [pk_us, hS5 3 (by decide), m7, d3]
    · rw [pk_un (by decide), pk_us, m8]
    · rw [pk_un (by decide), pk_un (by decide), hS55]; exact Or.inr rfl
    · rw [pk_un (by decide), pk_us]; exact Or.inl rfl
  · rw [e1]
    exact ⟨by rw [m16]; exact g2.1, fun k hk => by rw [tk (9 + k) (Or.inl (by omega)), hN (9 + k) (by omega)]; exact g2.2 k hk⟩
  · rw [e2]
    exact qOr_row g4 ho4 (fun k hk hk2 => (tk k (Or.inr hk)).trans (hN k (by omega)))
  · rw [e3]
    exact fun _ i hi c hc => by rw [tk _ (Or.inr (by omega))]; exact hr i hi c hc
theorem mDat_cong {nw N da co : Nat → Int32} {i : Nat} (h0 : N (71 + 5 * i) = nw (71 + 5 * i)) (h1 : N (71 + 5 * i + 1) = nw (71 + 5 * i + 1)) : mDat N da co i = mDat nw da co i := by unfold mDat; rw [h0, h1]
theorem mRes_at {da co N : Nat → Int32} {o : Nat} : ∀ {k i : Nat}, k ≤ 4 → i < k → mRes da co o N k (91 + 2 * i) = mCnt N co o i ∧ mRes da co o N k (91 + 2 * i + 1) = mDat N da co i
  | k + 1, i, hk4, hi => by
    have e : mRes da co o N (k + 1) = upd (upd (mRes da co o N k) (91 + 2 * k) (mCnt (mRes da co o N k) co o k)) (91 + 2 * k + 1) (mDat (upd (mRes da co o N k) (91 + 2 * k) (mCnt (mRes da co o N k) co o k)) da co k) := rfl
    rw [e]
    by_cases h : i = k
    · subst h
      rw [pk_us, pk_un (by omega), pk_us]
      refine ⟨rfl, mDat_cong ?_ ?_⟩
      · rw [pk_un (by omega), mRes_k (by omega)]
      · rw [pk_un (by omega), mRes_k (by omega)]
    · rw [pk_un (by omega), pk_un (by omega), pk_un (by omega), pk_un (by omega)]
      exact mRes_at (by omega) (by omega)
/-- the model's row behind a frame: results told, the marks set -/
theorem mE_at {da co N : Nat → Int32} {o : Nat} (ho : o ≤ 4) : (∀ k, k < 91 → k ≠ 4 → k ≠ 7 → k ≠ 8 → mEnd (mRes da co o N o) k = N k) ∧ mEnd (mRes da co o N o) 4 = 1 ∧ mEnd (mRes da co o N o) 8 = 0 ∧ mEnd (mRes da co o N o) 7 = N 7 + 1 ∧ ∀ i, i < o → mEnd (mRes da co o N o) (91 + 2 * i) = co i + co (4 + i) ∧ mEnd (mRes da co o N o) (91 + 2 * i + 1) = mDat N da co i := by
  refine ⟨fun k h a b c => by rw [mEnd_k a b c, mRes_k h], ?_, ?_, ?_, fun i hi => ?_⟩
  · unfold mEnd; rw [pk_un (by decide), pk_un (by decide), pk_us]
  · unfold mEnd; rw [pk_un (by decide), pk_us]
  · unfold mEnd; rw [pk_us, pk_un (by decide), pk_un (by decide), mRes_k (by decide)]
  · rw [mEnd_k (by omega) (by omega) (by omega), mEnd_k (by omega) (by omega) (by omega), (mRes_at ho hi).1, (mRes_at ho hi).2]
    unfold mCnt
    rw [if_pos hi]
    exact ⟨rfl, rfl⟩
theorem rNo_at {R : S2} : ∀ {n i : Nat}, i < n → rNo R n 3 (i * 2 + 0) = 0 ∧ rNo R n 3 (i * 2 + 1) = R 2 (i * 5 + 4)
  | n + 1, i, hi => by
    have e : rNo R (n + 1) 3 = upd (upd (rNo R n 3) (n * 2 + 0) 0) (n * 2 + 1) (rNo R n 2 (n * 5 + 4)) := rfl
    rw [e, rNo_k (k := 2) (by decide)]
    by_cases k : i = n
    · subst k; rw [pk_us, pk_un (by omega), pk_us]; exact ⟨rfl, rfl⟩
    · rw [pk_un (by omega), pk_un (by omega), pk_un (by omega), pk_un (by omega)]; exact rNo_at (by omega)
theorem cyc_eq {R A B : S2} {nw da co pl me : Nat → Int32} {n o m v : Nat} (h : RQ R nw n o m v) (hlim : rLm R) : RQ (cyc R A B n o m).2.2.1 (mCyc n o nw da co pl me).1 n o m v ∧ rLm (cyc R A B n o m).2.2.1 := by
  refine ⟨?_, by unfold rLm; rw [cyc_5 (by decide) (by decide) (by decide)]; exact hlim⟩
  obtain ⟨g1, g2, g3, g4, g5⟩ := id h
  have hm := g1.m7
  have ho4 : o ≤ 4 := g1.2.1.2.2
  have hn6 : n ≤ 6 := g1.1.2.2
  have e8 : nw 8 = R 5 6 := g1.2.2.2.1.2.2.2.1
  have f6 : b01 (R 5 6) := g1.2.2.2.2.2
  unfold cyc mCyc
  rw [e8]
  rcases f6 with z | z
  · rw [if_pos z, if_neg (by rw [z]; decide)]
    obtain ⟨⟨s1, s2, s3⟩, s4, ⟨s5, s6⟩, s7, s8, s9, s10⟩ := send_eq (A := A) (B := B) (da := da) (co := co) (pl := pl) (me := me) (c := nw 16) g1 h.lc g3 g4
    generalize (snd 0 R A B n o m).2.2.1 = S at *
    generalize (snd 0 R A B n o m).2.2.2 = sv at *
    generalize mSnd n o (nw 16) nw da co pl me = s at *
    have k17 : ∀ k, k < 17 → s.1 k = nw k := fun k hk => s2 k (Or.inl hk)
    have eT0 : mTime s.1 (s.1 16) n 0 = S 4 0 := by rw [k17 16 (by decide), mTime_cong k17 hn6]; exact s5.symm
    have eT1 : mTime (upd s.1 5 (S 4 0)) ((upd s.1 5 (S 4 0)) 16) n 1 = S 4 1 := by
      rw [pk_un (by decide), k17 16 (by decide), s6]
      show mTime (upd s.1 5 (S 4 0)) (nw 16) n 1 = mTime nw (nw 16) n 1
      unfold mTime
      have eB : mB (upd s.1 5 (S 4 0)) (nw 16) n = mB nw (nw 16) n := by unfold mB; rw [pk_un (by decide), k17 1 (by decide)]
      have l1 := mA_le (nw 16) n
      have l2 := mB_le nw (nw 16) n
      have way : ∀ a l, a + l ≤ 7 → mWay (upd s.1 5 (S 4 0)) a l = mWay nw a l := fun a l hl => fl_cong l (fun i hi x => by rw [pk_un (by omega), k17 (9 + (a + i)) (by omega)])
      rw [eB, pk_un (by decide), pk_un (by decide), k17 0 (by decide), k17 1 (by decide), way 0 (n + 1) (by omega), way 0 (mA (nw 16) n) (by omega), way (mB nw (nw 16) n + 1) (n - mB nw (nw 16) n) (by omega)]
    have eTm : (mTm n s) = (upd (upd s.1 5 (S 4 0)) 6 (S 4 1), s.2.1, s.2.2.1, s.2.2.2.1, s.2.2.2.2) := by
      unfold mTm; rw [eT0, eT1]
    rw [eTm]
    show RQ (cEnd (rTick sv S n)) (mTick s.2.2.2.2 n (mEnd (mRes s.2.1 s.2.2.1 o (upd (upd s.1 5 (S 4 0)) 6 (S 4 1)) o))) n o m v
    obtain ⟨y1, y2, y3, y4, y5⟩ := mE_at (da := s.2.1) (co := s.2.2.1) (N := upd (upd s.1 5 (S 4 0)) 6 (S 4 1)) ho4
    generalize mEnd (mRes s.2.1 s.2.2.1 o (upd (upd s.1 5 (S 4 0)) 6 (S 4 1)) o) = N at *
    refine cyc_fin h hlim s7 s8 s9 s10 ?_ s3 ?_ y2 y3 ?_ ?_ ?_ ?_
    · exact qDr_row s1 hn6 (fun k a b => by rw [y1 k (by omega) (by omega) (by omega) (by omega), pk_un (by omega), pk_un (by omega)])
    · intro k hk
      rw [y1 k (by omega) (by omega) (by omega) (by omega), pk_un (by omega), pk_un (by omega), s2 k (by omega)]
    · rw [y4, pk_un (by decide), pk_un (by decide), k17 7 (by decide)]
    · rw [y1 5 (by decide) (by decide) (by decide) (by decide), pk_un (by decide), pk_us]
    · rw [y1 6 (by decide) (by decide) (by decide) (by decide), pk_us]
    · intro i hi c hc
      rcases (by omega : c = 0 ∨ c = 1) with rfl | rfl
      · rw [Nat.add_zero, (y5 i hi).1]; exact (s4 i hi).1.symm
      · rw [(y5 i hi).2, (s4 i hi).2]
        exact mDat_cong (by rw [pk_un (by omega), pk_un (by omega), s2 _ (by omega)]) (by rw [pk_un (by omega), pk_un (by omega), s2 _ (by omega)])
  · rw [if_neg (by rw [z]; decide), if_pos z]
    show RQ (cEnd (rTick 0 (rNothing R o) n)) (mTick (rFill me 0 0 6) n (mEnd (mRes (mBd nw da 8) (mBc co 8) o (upd (upd nw 5 (-9)) 6 (-9)) o))) n o m v
    obtain ⟨y1, y2, y3, y4, y5⟩ := mE_at (da := mBd nw da 8) (co := mBc co 8) (N := upd (upd nw 5 (-9)) 6 (-9)) ho4
    generalize mEnd (mRes (mBd nw da 8) (mBc co 8) o (upd (upd nw 5 (-9)) 6 (-9)) o) = N at *
    have r4 : rNothing R o 4 = rFill ((rNo R o) 4) (-9) 0 2 := rfl
    have r3 : rNothing R o 3 = rNo R o 3 := rfl
    refine cyc_fin h hlim (rNothing_k (by decide) (by decide) (by decide)) (rNothing_k (by decide) (by decide) (by decide)) (fun j hj => rNothing_5 hj) rfl ?_ (svm_0 hn6) ?_ y2 y3 ?_ ?_ ?_ ?_
    · rw [rNothing_k (by decide) (by decide) (by decide)]
      exact qDr_row g3 hn6 (fun k a b => by rw [y1 k (by omega) (by omega) (by omega) (by omega), pk_un (by omega), pk_un (by omega)])
    · intro k hk
      rw [y1 k (by omega) (by omega) (by omega) (by omega), pk_un (by omega), pk_un (by omega)]
    · rw [y4, pk_un (by decide), pk_un (by decide)]
    · rw [y1 5 (by decide) (by decide) (by decide) (by decide), pk_un (by decide), pk_us, r4, fill2.1]
    · rw [y1 6 (by decide) (by decide) (by decide) (by decide), pk_us, r4, fill2.2]
    · intro i hi c hc
      rw [r3]
      rcases (by omega : c = 0 ∨ c = 1) with rfl | rfl
      · rw [Nat.add_zero, (y5 i hi).1, (rNo_at hi).1, mBc_at (by omega), mBc_at (by omega)]; rfl
      · rw [(y5 i hi).2, (rNo_at hi).2]
        have e4 : nw (71 + 5 * i + 4) = R 2 (i * 5 + 4) := (g4 i hi).1 4 (by decide)
        have d1 : mBd nw da 8 i = R 2 (i * 5 + 4) := by rw [mBd_at (by omega), show i % 4 = i by omega]; exact e4
        have d2 : mBd nw da 8 (4 + i) = R 2 (i * 5 + 4) := by rw [mBd_at (by omega), show (4 + i) % 4 = i by omega]; exact e4
        unfold mDat
        rw [d1, d2, mBc_at (by omega), if_pos (show (0 : Int32) ≤ 0 by decide), Int32.or_self]
        split <;> rfl
theorem cyN_eq {R A B : S2} {sv : Int32} {nw da co pl me : Nat → Int32} {n o m v : Nat} (h : RQ R nw n o m v) (hlim : rLm R) (q : Nat) : RQ (cyN n o m q (A, B, R, sv)).2.2.1 (mCyN n o q (nw, da, co, pl, me)).1 n o m v ∧ rLm (cyN n o m q (A, B, R, sv)).2.2.1 :=
  fl_rel (σ := S2 × S2 × S2 × Int32) (τ := M5) (fun t s => RQ t.2.2.1 s.1 n o m v ∧ rLm t.2.2.1) q ⟨h, hlim⟩ (fun _ t s _ h => cyc_eq h.1 h.2)
