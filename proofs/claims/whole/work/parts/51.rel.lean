/-! The pure equivalence: a ring and its row -/
def qSc (r4 r5 nw : Nat → Int32) (n o m : Nat) : Prop :=
  (r5 0 = nI n ∧ nw 0 = nI n ∧ n ≤ 6) ∧ (r5 1 = nI o ∧ nw 3 = nI o ∧ o ≤ 4) ∧
  ((r5 4 = 0 ∧ nw 1 = 0 ∧ m = n) ∨ (r5 4 = 1 ∧ nw 1 = 1 ∧ m = n + 1)) ∧
  (nw 2 = r5 2 ∧ nw 4 = r5 5 ∧ nw 7 = r5 3 ∧ nw 8 = r5 6 ∧ nw 5 = r4 0 ∧ nw 6 = r4 1) ∧ b01 (r5 5) ∧ b01 (r5 6)
def qLk (r1 nw : Nat → Int32) (m v : Nat) : Prop := (nw 16 = nI v ∧ v < 2 ^ m) ∧ ∀ k, k < m → nw (9 + k) = r1 (k * 2 + 0) ∧ r1 (k * 2 + 1) = if v.testBit k then 1 else 0
def qDr (r0 nw : Nat → Int32) (n : Nat) : Prop := ∀ d, d < n → (∀ c, c < 9 → nw (17 + 9 * d + c) = r0 (d * 9 + c)) ∧ b01 (r0 (d * 9 + 6))
def qOr (r2 nw : Nat → Int32) (o : Nat) : Prop := ∀ i, i < o → (∀ c, c < 5 → nw (71 + 5 * i + c) = r2 (i * 5 + c)) ∧ qRwx (r2 (i * 5 + 0)) ∧ qPsb (r2 (i * 5 + 1)) ∧ ∃ t : Nat, t ≤ 3 ∧ r2 (i * 5 + 3) = nI t
def qRs (r3 nw : Nat → Int32) (o : Nat) : Prop := ∀ i, i < o → ∀ c, c < 2 → nw (91 + 2 * i + c) = r3 (i * 2 + c)
def RQ (R : S2) (nw : Nat → Int32) (n o m v : Nat) : Prop := qSc (R 4) (R 5) nw n o m ∧ qLk (R 1) nw m v ∧ qDr (R 0) nw n ∧ qOr (R 2) nw o ∧ (R 5 5 = 1 → qRs (R 3) nw o)
theorem qSc.m7 {r4 r5 nw : Nat → Int32} {n o m : Nat} (h : qSc r4 r5 nw n o m) : m ≤ 7 ∧ n ≤ m ∧ m ≤ n + 1 := by
  obtain ⟨⟨_, _, a⟩, _, b, _⟩ := h
  rcases b with ⟨_, _, e⟩ | ⟨_, _, e⟩ <;> omega
theorem RQ_row {R : S2} {nw nw' : Nat → Int32} {n o m v : Nat} (h : RQ R nw n o m v) (e : ∀ k, k < 99 → nw' k = nw k) : RQ R nw' n o m v := by
  obtain ⟨h1, h2, h3, h4, h5⟩ := h
  have hm := h1.m7
  obtain ⟨⟨a1, a2, a3⟩, ⟨b1, b2, b3⟩, c, ⟨d1, d2, d3, d4, d5, d6⟩, f⟩ := h1
  refine ⟨⟨⟨a1, by rw [e 0 (by omega)]; exact a2, a3⟩, ⟨b1, by rw [e 3 (by omega)]; exact b2, b3⟩, by rw [e 1 (by omega)]; exact c, ⟨by rw [e 2 (by omega)]; exact d1, by rw [e 4 (by omega)]; exact d2, by rw [e 7 (by omega)]; exact d3, by rw [e 8 (by omega)]; exact d4, by rw [e 5 (by omega)]; exact d5, by rw [e 6 (by omega)]; exact d6⟩, f⟩, ⟨by rw [e 16 (by omega)]; exact h2.1, fun k hk => by rw [e (9 + k) (by omega)]; exact h2.2 k hk⟩, fun d hd => ⟨fun c hc => by rw [e _ (by omega)]; exact (h3 d hd).1 c hc, (h3 d hd).2⟩, fun i hi => ⟨fun c hc => by rw [e _ (by omega)]; exact (h4 i hi).1 c hc, (h4 i hi).2⟩, fun h i hi c hc => by rw [e _ (by omega)]; exact h5 h i hi c hc⟩
theorem RQ_ring {R R' : S2} {nw : Nat → Int32} {n o m v : Nat} (h : RQ R nw n o m v) (e0 : ∀ k, k < 54 → R' 0 k = R 0 k) (e1 : ∀ k, k < 14 → R' 1 k = R 1 k) (e2 : ∀ k, k < 20 → R' 2 k = R 2 k) (e3 : ∀ k, k < 8 → R' 3 k = R 3 k) (e4 : ∀ k, k < 2 → R' 4 k = R 4 k) (e5 : ∀ k, k < 7 → R' 5 k = R 5 k) : RQ R' nw n o m v := by
  obtain ⟨h1, h2, h3, h4, h5⟩ := h
  have hm := h1.m7
  obtain ⟨⟨a1, a2, a3⟩, ⟨b1, b2, b3⟩, c, ⟨d1, d2, d3, d4, d5, d6⟩, f1, f2⟩ := h1
  refine ⟨⟨⟨by rw [e5 0 (by omega)]; exact a1, a2, a3⟩, ⟨by rw [e5 1 (by omega)]; exact b1, b2, b3⟩, by rw [e5 4 (by omega)]; exact c, ⟨by rw [e5 2 (by omega)]; exact d1, by rw [e5 5 (by omega)]; exact d2, by rw [e5 3 (by omega)]; exact d3, by rw [e5 6 (by omega)]; exact d4, by rw [e4 0 (by omega)]; exact d5, by rw [e4 1 (by omega)]; exact d6⟩, by rw [e5 5 (by omega)]; exact f1, by rw [e5 6 (by omega)]; exact f2⟩, ⟨h2.1, fun k hk => by rw [e1 (k * 2 + 0) (by omega), e1 (k * 2 + 1) (by omega)]; exact h2.2 k hk⟩, fun d hd => ⟨fun c hc => by rw [e0 _ (by omega)]; exact (h3 d hd).1 c hc, by rw [e0 _ (by omega)]; exact (h3 d hd).2⟩, fun i hi => ⟨fun c hc => by rw [e2 _ (by omega)]; exact (h4 i hi).1 c hc, by rw [e2 _ (by omega), e2 _ (by omega), e2 (i * 5 + 3) (by omega)]; exact (h4 i hi).2⟩, fun h i hi c hc => by rw [e3 _ (by omega)]; rw [e5 5 (by omega)] at h; exact h5 h i hi c hc⟩
theorem RQ_copy {R O : S2} {nw : Nat → Int32} {n o m v : Nat} (h : RQ O nw n o m v) : RQ (rCopy R O) nw n o m v :=
  RQ_ring h (fun k hk => cpy_in hk) (fun k hk => cpy_in hk) (fun k hk => cpy_in hk) (fun k hk => cpy_in hk) (fun k hk => cpy_in hk) (fun k hk => by
    rcases (by omega : k = 0 ∨ k = 1 ∨ k = 2 ∨ k = 3 ∨ k = 4 ∨ k = 5 ∨ k = 6) with rfl | rfl | rfl | rfl | rfl | rfl | rfl <;> rfl)
theorem RQ.okB {R : S2} {nw : Nat → Int32} {n o m v : Nat} (h : RQ R nw n o m v) : okB R := by
  obtain ⟨⟨_, _, c, _, f1, f2⟩, _⟩ := h
  refine ⟨?_, f1, f2⟩
  rcases c with ⟨c, _, _⟩ | ⟨c, _, _⟩
  · exact Or.inl c
  · exact Or.inr c
theorem RQ.links {R : S2} {nw : Nat → Int32} {n o m v : Nat} (h : RQ R nw n o m v) : rLinks R = nI m ∧ nw 0 + nw 1 = nI m := by
  obtain ⟨⟨⟨a1, a2, _⟩, _, c, _⟩, _⟩ := h
  unfold rLinks
  rcases c with ⟨c1, c2, rfl⟩ | ⟨c1, c2, rfl⟩
  · rw [if_pos c1, c2, a2]; exact ⟨a1, by rw [Int32.add_zero]⟩
  · rw [if_neg (by rw [c1]; decide), c2, a1, a2, nI_1]; exact ⟨rfl, rfl⟩
theorem okAt_of {R : S2} {nw : Nat → Int32} {o : Nat} (h : qOr (R 2) nw o) (ho : o ≤ 4) : okAt R o := fun i hi => by
  obtain ⟨_, _, _, t, ht, e⟩ := h i hi
  have e2 : atn R i = t := by unfold atn; rw [e]; exact nI_clamp (by omega)
  rw [e2]; exact ⟨e, ht⟩
theorem okAM_of {R : S2} {nw : Nat → Int32} {o : Nat} (h : qOr (R 2) nw o) (ho : o ≤ 4) : okAM nw o := fun i hi => by
  obtain ⟨e0, _, _, t, ht, e⟩ := h i hi
  have e1 : nw (71 + 5 * i + 3) = nI t := (e0 3 (by decide)).trans e
  have e2 : mt nw i = t := by unfold mt; rw [e1]; exact nI_clamp (by omega)
  rw [e2]; exact ⟨e1, ht⟩
/-! wires -/
def WI (D : S2) (Q : Nat → Int32) (n m : Nat) : Prop := RQ D Q n 0 m 0 ∧ ∀ d, n ≤ d → d < 6 → ∀ c, c < 9 → Q (17 + 9 * d + c) = 0
theorem mBeg_at (f : Nat → Int32) {k : Nat} (hk : k < 99) : mBeg f k = if k = 2 then 3 else if k = 5 then -9 else if k = 6 then -9 else 0 := by
  unfold mBeg rFill
  rw [fl_fill]
  by_cases h6 : k = 6
  · subst h6; rw [pk_us]; rfl
  · rw [pk_un h6]
    by_cases h5 : k = 5
    · subst h5; rw [pk_us]; rfl
    · rw [pk_un h5]
      by_cases h2 : k = 2
      · subst h2; rw [pk_us]; rfl
      · rw [pk_un h2, if_neg h2, if_neg h5, if_neg h6]
        exact if_pos ⟨by omega, by omega⟩
theorem WI_0 (D : S2) (f : Nat → Int32) : WI (rEmpty D) (mBeg f) 0 0 := by
  have h4 : (rEmpty D) 4 = rFill (D 4) (-9) 0 2 := rfl
  have q0 : mBeg f 0 = 0 := mBeg_at f (by decide)
  have q1 : mBeg f 1 = 0 := mBeg_at f (by decide)
  have q2 : mBeg f 2 = 3 := mBeg_at f (by decide)
  have q3 : mBeg f 3 = 0 := mBeg_at f (by decide)
  have q4 : mBeg f 4 = 0 := mBeg_at f (by decide)
  have q5 : mBeg f 5 = -9 := mBeg_at f (by decide)
  have q6 : mBeg f 6 = -9 := mBeg_at f (by decide)
  have q7 : mBeg f 7 = 0 := mBeg_at f (by decide)
  have q8 : mBeg f 8 = 0 := mBeg_at f (by decide)
  have q16 : mBeg f 16 = 0 := mBeg_at f (by decide)
  refine ⟨⟨⟨⟨rfl, q0, by decide⟩, ⟨rfl, q3, by decide⟩, Or.inl ⟨rfl, q1, rfl⟩, ⟨q2, q4, q7, q8, ?_, ?_⟩, Or.inl rfl, Or.inl rfl⟩, ⟨⟨q16, by decide⟩, fun k hk => absurd hk (Nat.not_lt_zero k)⟩, fun d hd => absurd hd (Nat.not_lt_zero d), fun d hd => absurd hd (Nat.not_lt_zero d), fun h => absurd h (by show ¬ (0 : Int32) = 1; decide)⟩, fun d _ hd c hc => ?_⟩
  · rw [q5, h4]; unfold rFill; rw [fl_fill]; rfl
  · rw [q6, h4]; unfold rFill; rw [fl_fill]; rfl
  · rw [mBeg_at f (by omega), if_neg (by omega), if_neg (by omega), if_neg (by omega)]
theorem dn_of {D : S2} {n : Nat} (h : D 5 0 = nI n) (hn : n ≤ 6) : dn D = n := (okD_of h hn).2
theorem qn_of {Q : Nat → Int32} {n : Nat} (h : Q 0 = nI n) (hn : n ≤ 6) : qn Q = n := by unfold qn; rw [h]; exact nI_clamp (by omega)
theorem WI_drive {D : S2} {Q : Nat → Int32} {n m : Nat} {a b : Int32} (h : WI D Q n m) (hn : n < 6) (hc : D 5 4 = 0) : WI (rAddDrive D n a b) (upd (upd (upd Q (9 + n) a) (17 + 9 * n) b) 0 ((upd (upd Q (9 + n) a) (17 + 9 * n) b) 0 + 1)) (n + 1) (m + 1) := by
  obtain ⟨⟨⟨⟨a1, a2, a3⟩, ⟨b1, b2, b3⟩, c, ⟨d1, d2, d3, d4, d5, d6⟩, f1, f2⟩, ⟨⟨g1, g2⟩, g3⟩, h3, h4, h5⟩, hz⟩ := h
  have em : m = n := by
    rcases c with ⟨_, _, e⟩ | ⟨e, _, _⟩
    · exact e
    · rw [hc] at e; exact absurd e (by decide)
  subst em
  have hq1 : Q 1 = 0 := by
    rcases c with ⟨_, e, _⟩ | ⟨e, _, _⟩
    · exact e
    · rw [hc] at e; exact absurd e (by decide)
  have r0 : rAddDrive D m a b 0 = upd (rFill (D 0) 0 (m * 9) ((m * 9 + 9) - (m * 9))) (m * 9 + 0) b := rfl
  have r1 : rAddDrive D m a b 1 = upd (upd (D 1) (m * 2 + 0) a) (m * 2 + 1) 0 := rfl
  have r2 : rAddDrive D m a b 2 = D 2 := rfl
  have r3 : rAddDrive D m a b 3 = D 3 := rfl
  have r4 : rAddDrive D m a b 4 = D 4 := rfl
  have r5 : rAddDrive D m a b 5 = upd (D 5) 0 (D 5 0 + 1) := rfl
  have qk : ∀ k, k ≠ 0 → k ≠ 9 + m → k ≠ 17 + 9 * m → (upd (upd (upd Q (9 + m) a) (17 + 9 * m) b) 0 ((upd (upd Q (9 + m) a) (17 + 9 * m) b) 0 + 1)) k = Q k := fun k x y z => by rw [pk_un x, pk_un z, pk_un y]
  refine ⟨⟨?_, ?_, ?_, ?_, ?_⟩, ?_⟩
  · rw [r4, r5]
    refine ⟨⟨by rw [pk_us, a1, nI_1], by rw [pk_us, pk_un (by omega), pk_un (by omega), a2, nI_1], by omega⟩, ⟨by rw [pk_un (by decide)]; exact b1, by rw [qk 3 (by omega) (by omega) (by omega)]; exact b2, b3⟩, Or.inl ⟨by rw [pk_un (by decide)]; exact hc, by rw [qk 1 (by omega) (by omega) (by omega)]; exact hq1, rfl⟩, ⟨?_, ?_, ?_, ?_, ?_, ?_⟩, by rw [pk_un (by decide)]; exact f1, by rw [pk_un (by decide)]; exact f2⟩
    · rw [qk 2 (by omega) (by omega) (by omega), pk_un (by decide)]; exact d1
    · rw [qk 4 (by omega) (by omega) (by omega), pk_un (by decide)]; exact d2
    · rw [qk 7 (by omega) (by omega) (by omega), pk_un (by decide)]; exact d3
    · rw [qk 8 (by omega) (by omega) (by omega), pk_un (by decide)]; exact d4
    · rw [qk 5 (by omega) (by omega) (by omega)]; exact d5
    · rw [qk 6 (by omega) (by omega) (by omega)]; exact d6
  · rw [r1]
    refine ⟨⟨by rw [qk 16 (by omega) (by omega) (by omega)]; exact g1, Nat.two_pow_pos _⟩, fun k hk => ?_⟩
    by_cases e : k = m
    · subst e
      refine ⟨?_, by rw [pk_us, Nat.zero_testBit]; rfl⟩
      rw [pk_un (by omega), pk_un (by omega), pk_us, pk_un (by omega), pk_us]
    · obtain ⟨x, y⟩ := g3 k (by omega)
      refine ⟨?_, ?_⟩
      · rw [qk (9 + k) (by omega) (by omega) (by omega), pk_un (by omega), pk_un (by omega)]; exact x
      · rw [pk_un (by omega), pk_un (by omega)]; exact y
  · rw [r0]
    unfold rFill
    rw [fl_fill]
    intro d hd
    by_cases e : d = m
    · subst e
      refine ⟨fun c hc => ?_, Or.inl ?_⟩
      · by_cases e2 : c = 0
        · subst e2
          rw [pk_us, pk_un (by omega), show 17 + 9 * d + 0 = 17 + 9 * d from rfl, pk_us]
        · rw [qk _ (by omega) (by omega) (by omega), pk_un (by omega), hz d (Nat.le_refl _) hn c hc, if_pos (by omega)]
      · rw [pk_un (by omega), if_pos (by omega)]
    · obtain ⟨x, y⟩ := h3 d (by omega)
      refine ⟨fun c hc => ?_, ?_⟩
      · rw [qk _ (by omega) (by omega) (by omega), pk_un (by omega), if_neg (by omega)]; exact x c hc
      · rw [pk_un (by omega), if_neg (by omega)]; exact y
  · rw [r2]; exact fun i hi => absurd hi (Nat.not_lt_zero i)
  · rw [r3]; exact fun _ i hi => absurd hi (Nat.not_lt_zero i)
  · intro d h1 h2 c hc
    rw [qk _ (by omega) (by omega) (by omega)]; exact hz d (by omega) h2 c hc
theorem WI_close {D : S2} {Q : Nat → Int32} {n m : Nat} {a : Int32} (h : WI D Q n m) (hc : D 5 4 = 0) : WI (rCloseBy D n a) (upd (upd Q (9 + n) a) 1 1) n (m + 1) := by
  obtain ⟨⟨⟨⟨a1, a2, a3⟩, ⟨b1, b2, b3⟩, c, ⟨d1, d2, d3, d4, d5, d6⟩, f1, f2⟩, ⟨⟨g1, g2⟩, g3⟩, h3, h4, h5⟩, hz⟩ := h
  have em : m = n := by
    rcases c with ⟨_, _, e⟩ | ⟨e, _, _⟩
    · exact e
    · rw [hc] at e; exact absurd e (by decide)
  subst em
  have r0 : rCloseBy D m a 0 = D 0 := rfl
  have r1 : rCloseBy D m a 1 = upd (upd (D 1) (m * 2 + 0) a) (m * 2 + 1) 0 := rfl
  have r2 : rCloseBy D m a 2 = D 2 := rfl
  have r3 : rCloseBy D m a 3 = D 3 := rfl
  have r4 : rCloseBy D m a 4 = D 4 := rfl
  have r5 : rCloseBy D m a 5 = upd (D 5) 4 1 := rfl
  have qk : ∀ k, k ≠ 1 → k ≠ 9 + m → (upd (upd Q (9 + m) a) 1 1) k = Q k := fun k x y => by rw [pk_un x, pk_un y]
  refine ⟨⟨?_, ?_, ?_, ?_, ?_⟩, ?_⟩
  · rw [r4, r5]
    refine ⟨⟨by rw [pk_un (by decide)]; exact a1, by rw [qk 0 (by omega) (by omega)]; exact a2, by omega⟩, ⟨by rw [pk_un (by decide)]; exact b1, by rw [qk 3 (by omega) (by omega)]; exact b2, b3⟩, Or.inr ⟨by rw [pk_us], by rw [pk_us], rfl⟩, ⟨?_, ?_, ?_, ?_, ?_, ?_⟩, by rw [pk_un (by decide)]; exact f1, by rw [pk_un (by decide)]; exact f2⟩
    · rw [qk 2 (by omega) (by omega), pk_un (by decide)]; exact d1
    · rw [qk 4 (by omega) (by omega), pk_un (by decide)]; exact d2
    · rw [qk 7 (by omega) (by omega), pk_un (by decide)]; exact d3
    · rw [qk 8 (by omega) (by omega), pk_un (by decide)]; exact d4
    · rw [qk 5 (by omega) (by omega)]; exact d5
    · rw [qk 6 (by omega) (by omega)]; exact d6
  · rw [r1]
    refine ⟨⟨by rw [qk 16 (by omega) (by omega)]; exact g1, Nat.two_pow_pos _⟩, fun k hk => ?_⟩
    by_cases e : k = m
    · subst e
      refine ⟨?_, by rw [pk_us, Nat.zero_testBit]; rfl⟩
      rw [pk_un (by omega), pk_us, pk_un (by omega), pk_us]
    · obtain ⟨x, y⟩ := g3 k (by omega)
      refine ⟨?_, ?_⟩
      · rw [qk (9 + k) (by omega) (by omega), pk_un (by omega), pk_un (by omega)]; exact x
      · rw [pk_un (by omega), pk_un (by omega)]; exact y
  · rw [r0]
    intro d hd
    obtain ⟨x, y⟩ := h3 d hd
    exact ⟨fun c hc => by rw [qk _ (by omega) (by omega)]; exact x c hc, y⟩
  · rw [r2]; exact fun i hi => absurd hi (Nat.not_lt_zero i)
  · rw [r3]; exact fun _ i hi => absurd hi (Nat.not_lt_zero i)
  · intro d h1 h2 c hc
    rw [qk _ (by omega) (by omega)]; exact hz d h1 h2 c hc
theorem WI_limit {D : S2} {Q : Nat → Int32} {n m : Nat} {a : Int32} (h : WI D Q n m) : WI (u2 D 5 2 a) (upd Q 2 a) n m := by
  obtain ⟨⟨⟨⟨a1, a2, a3⟩, ⟨b1, b2, b3⟩, c, ⟨d1, d2, d3, d4, d5, d6⟩, f1, f2⟩, ⟨⟨g1, g2⟩, g3⟩, h3, h4, h5⟩, hz⟩ := h
  have hm : m ≤ 7 := by rcases c with ⟨_, _, e⟩ | ⟨_, _, e⟩ <;> omega
  have r5 : u2 D 5 2 a 5 = upd (D 5) 2 a := rfl
  refine ⟨⟨?_, ?_, ?_, ?_, ?_⟩, ?_⟩
  · rw [r5]
    show qSc (D 4) _ _ _ _ _
    refine ⟨⟨by rw [pk_un (by decide)]; exact a1, by rw [pk_un (by omega)]; exact a2, by omega⟩, ⟨by rw [pk_un (by decide)]; exact b1, by rw [pk_un (by omega)]; exact b2, b3⟩, ?_, ⟨?_, ?_, ?_, ?_, ?_, ?_⟩, by rw [pk_un (by decide)]; exact f1, by rw [pk_un (by decide)]; exact f2⟩
    · rw [pk_un (by decide), pk_un (by decide)]; exact c
    · rw [pk_us, pk_us]
    · rw [pk_un (by decide), pk_un (by decide)]; exact d2
    · rw [pk_un (by decide), pk_un (by decide)]; exact d3
    · rw [pk_un (by decide), pk_un (by decide)]; exact d4
    · rw [pk_un (by decide)]; exact d5
    · rw [pk_un (by decide)]; exact d6
  · show qLk (D 1) _ _ _
    exact ⟨⟨by rw [pk_un (by decide)]; exact g1, g2⟩, fun k hk => by rw [pk_un (by omega)]; exact g3 k hk⟩
  · show qDr (D 0) _ _
    exact fun d hd => ⟨fun c hc => by rw [pk_un (by omega)]; exact (h3 d hd).1 c hc, (h3 d hd).2⟩
  · exact fun i hi => absurd hi (Nat.not_lt_zero i)
  · exact fun _ i hi => absurd hi (Nat.not_lt_zero i)
  · intro d h1 h2 c hc
    rw [pk_un (by omega)]; exact hz d h1 h2 c hc
