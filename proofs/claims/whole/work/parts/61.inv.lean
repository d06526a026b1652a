/-! What ties both worlds -/
def IV (X0 X3 X4 : S2) (Hs : Nat → S2) (L : Nat → Int32) (z x s : Nat) (kp : Nat → Int32) (U : S2) (nw ps im sw svv : Nat → Int32) (k n o m v : Nat) : Prop :=
  (RQ X0 nw n o m v ∧ 1 ≤ n ∧ rLm X0) ∧ (z ≤ 120 ∧ okL L z) ∧ (x < 6 ∧ s ≤ 6 ∧ HR Hs x s ps ∧ ∀ j, j < 6 → okB (Hs j)) ∧ (okB X3 ∧ okB X4 ∧ IM X3 X4 kp im kp) ∧ UW U sw svv k
section IVS
variable {X0 X3 X4 : S2} {Hs : Nat → S2} {L : Nat → Int32} {z x s : Nat} {kp : Nat → Int32} {U : S2} {nw ps im sw svv : Nat → Int32} {k n o m v : Nat}
theorem IV.okC (h : IV X0 X3 X4 Hs L z x s kp U nw ps im sw svv k n o m v) : okC X0 X3 X4 Hs z x s n o m k U := by
  obtain ⟨⟨h1, h2, h3⟩, ⟨h4, h5⟩, ⟨h6, h7, h8, h9⟩, ⟨h10, h11, h12⟩, h13⟩ := h
  have hm := h1.1.m7
  have ho4 : o ≤ 4 := h1.1.2.1.2.2
  exact ⟨h4, h6, h7, h1.1.1.1, h1.1.1.2.2, h2, h1.1.2.1.1, ho4, h1.links.1, hm.1, okAt_of h1.2.2.2.1 ho4, h1.okB, h9, ⟨h10, h11⟩, h13.1, h13.2.1, h13.okU⟩
theorem RQ.okcc (h : RQ X0 nw n o m v) : okc nw (nw 16) n ∧ ∀ j, j < m → okc nw (nw 16 ||| ((1 : Int32) <<< (nI j &&& 31))) n := by
  refine ⟨(sB_eq h.1.s3 h.lc).2, fun j hj => ?_⟩
  exact (sB_eq (R := u2 X0 1 (j * 2 + 1) 1) h.1.s3 (lc_cut h.lc h.1.s3.m7.2.1 hj)).2
theorem IV.okM (h : IV X0 X3 X4 Hs L z x s kp U nw ps im sw svv k n o m v) : okM nw sw s z k n o m := by
  obtain ⟨⟨h1, h2, h3⟩, ⟨h4, h5⟩, ⟨h6, h7, h8, h9⟩, ⟨h10, h11, h12⟩, h13⟩ := h
  have hm := h1.1.m7
  have ho4 : o ≤ 4 := h1.1.2.1.2.2
  exact ⟨h7, h4, h13.2.1, h1.1.1.2.1, h1.1.1.2.2, h2, h1.1.2.1.2.1, ho4, h1.links.2, hm.1, okAM_of h1.2.2.2.1 ho4, h1.okcc.1, h1.okcc.2, h13.okSw⟩
theorem IV.gr (h : IV X0 X3 X4 Hs L z x s kp U nw ps im sw svv k n o m v) : GR X0 nw := ⟨n, o, m, v, h.1⟩
/-- a thing done: the ring of before is kept -/
theorem IV_push (h : IV X0 X3 X4 Hs L z x s kp U nw ps im sw svv k n o m v) {X : S2} {N : Nat → Int32} {n' o' m' v' : Nat} (g : RQ X N n' o' m' v' ∧ 1 ≤ n' ∧ rLm X) : IV X X3 X4 (va_up Hs x (rCopy (Hs x) X0)) L z ((x + 1) % 6) (hsz s) kp U N (mNo nw ps s) im sw svv k n' o' m' v' := by
  have gr := h.gr
  obtain ⟨h1, h2, ⟨h6, h7, h8, h9⟩, h10, h13⟩ := h
  refine ⟨g, h2, ⟨Nat.mod_lt _ (by decide), ?_, HR_push h8 h6 h7 gr, fun j hj => ?_⟩, h10, h13⟩
  · unfold hsz; split <;> omega
  · by_cases e : j = x
    · subst e; rw [vu_s]; exact (GR_copy gr).okB
    · rw [vu_n e]; exact h9 j hj
theorem IV_now (h : IV X0 X3 X4 Hs L z x s kp U nw ps im sw svv k n o m v) {X : S2} {N : Nat → Int32} {n' o' m' v' : Nat} (g : RQ X N n' o' m' v' ∧ 1 ≤ n' ∧ rLm X) : IV X X3 X4 Hs L z x s kp U N ps im sw svv k n' o' m' v' := ⟨g, h.2⟩
theorem IV_row (h : IV X0 X3 X4 Hs L z x s kp U nw ps im sw svv k n o m v) {N : Nat → Int32} (e : ∀ j, j < 99 → N j = nw j) : IV X0 X3 X4 Hs L z x s kp U N ps im sw svv k n o m v := ⟨⟨RQ_row h.1.1 e, h.1.2⟩, h.2⟩
theorem IV_text (h : IV X0 X3 X4 Hs L z x s kp U nw ps im sw svv k n o m v) {L' : Nat → Int32} {z' : Nat} (hz : z' ≤ 120) (hL : okL L' z') : IV X0 X3 X4 Hs L' z' x s kp U nw ps im sw svv k n o m v := ⟨h.1, ⟨hz, hL⟩, h.2.2⟩
theorem okL_0 {L : Nat → Int32} : okL L 0 := fun j hj => absurd hj (Nat.not_lt_zero j)
end IVS
def JX (V : VT) (ad : Nat → Nat → Nat) (ad2 : Nat → Nat) (CW MW : va_W) : Prop :=
  ∃ (X0 X1 X2 X3 X4 : S2) (Hs : Nat → S2) (L : Nat → Int32) (z : Nat) (b c d u lt sv : Int32) (A B : S2) (x s : Nat) (kp : Nat → Int32) (U Y : S2) (nw rw ps im sw svv da co pl me fa ao al : Nat → Int32) (ax ta ts tv il : Int32) (k n o m v : Nat),
    CW = List.flatten [wMain ad, wRing V (ad 0) X0, wRing V (ad 1) X1, wRing V (ad 2) X2, wTx V (ad 11) L (nI z) b c d u, wRd (ad 12 0) (ad 11 0) lt, wSd (ad 12 1) (ad 13 0) (ad 14 0) sv, wCopy V (ad 13) A, wCopy V (ad 14) B, wHi (ad 12 2) (ad 12 3) (nI x) (nI s), wRs V (ad 12 3) 6 (fun j_ => ad (5 + j_) 0), wRing V (ad 5) (Hs 0), wRing V (ad 6) (Hs 1), wRing V (ad 7) (Hs 2), wRing V (ad 8) (Hs 3), wRing V (ad 9) (Hs 4), wRing V (ad 10) (Hs 5), wRs V (ad 12 4) 2 (fun j_ => ad (3 + j_) 0), wRing V (ad 3) X3, wRing V (ad 4) X4, wKz V (ad 12 5) kp, wSight V (ad 15) U, wSusp V (ad 16) Y] ∧ MW = wMo V ad2 nw rw ps im kp L sw svv da co pl me fa ao al (nI s) (nI z) ax ta ts tv (nI k) il ∧ IV X0 X3 X4 Hs L z x s kp U nw ps im sw svv k n o m v
def rmS (r : Room) : Prop := r.frames ≤ 9 ∧ r.locals ≤ 200 ∧ r.cells = 0 ∧ r.slots = 0
/-- one call on both sides: the same answer, and both worlds tied again -/
def ST (V : VT) (ad : Nat → Nat → Nat) (ad2 : Nat → Nat) (y1 : MethodName) (c1 : ByteArray) (m1 : Nat) (y2 : MethodName) (c2 : ByteArray) (m2 : Nat) (As : List Value) (CW MW : va_W) : Prop :=
  ∃ (r : Int32) (CW' MW' : va_W) (r1 r2 : Room), rmS r1 ∧ rmS r2 ∧ CI V y1 c1 m1 .int r1 (.ref (ad 12 6) :: As) CW (fun r_ w_ => r_ = r ∧ w_ = CW') ∧ CI V y2 c2 m2 .int r2 (.ref (ad2 0) :: As) MW (fun r_ w_ => r_ = r ∧ w_ = MW') ∧ JX V ad ad2 CW' MW'
theorem ST_mk {V : VT} {ad : Nat → Nat → Nat} {ad2 : Nat → Nat} {y1 : MethodName} {c1 : ByteArray} {m1 : Nat} {y2 : MethodName} {c2 : ByteArray} {m2 : Nat} {As : List Value} {CW MW CW' MW' : va_W} {r r' : Int32} {r1 r2 : Room} (h1 : rmS r1) (h2 : rmS r2) (hc : CI V y1 c1 m1 .int r1 (.ref (ad 12 6) :: As) CW (fun r_ w_ => r_ = r ∧ w_ = CW')) (hm : CI V y2 c2 m2 .int r2 (.ref (ad2 0) :: As) MW (fun r_ w_ => r_ = r' ∧ w_ = MW')) (e : r = r') (j : JX V ad ad2 CW' MW') : ST V ad ad2 y1 c1 m1 y2 c2 m2 As CW MW := by
  subst e
  exact ⟨r, CW', MW', r1, r2, h1, h2, hc, hm, j⟩
theorem bad_m {l : Int32} {m : Nat} (hm : m < 1073741824) (h : l < 0 ∨ nI m ≤ l) : ¬ (¬ l < 0 ∧ ¬ nI m - 1 < l) := fun g => by
  rcases h with h | h
  · exact g.1 h
  · refine g.2 ?_
    cases m with
    | zero => exact Int32.lt_of_lt_of_le (by decide) h
    | succ m => rw [nI_m1]; exact Int32.lt_of_lt_of_le (nI_lt (Nat.lt_succ_self m) (by omega)) h
theorem bad_c {l : Int32} {m : Nat} (h : l < 0 ∨ nI m ≤ l) : ¬ (¬ l < 0 ∧ ¬ nI m ≤ l) := fun g => by
  rcases h with h | h
  · exact g.1 h
  · exact g.2 h
theorem bI_cong {P Q : Prop} [Decidable P] [Decidable Q] (h : P ↔ Q) : bI P = bI Q := by
  unfold bI
  by_cases p : P
  · rw [if_pos p, if_pos (h.mp p)]
  · rw [if_neg p, if_neg (fun q => p (h.mpr q))]
