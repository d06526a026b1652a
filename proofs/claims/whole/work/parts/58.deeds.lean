/-! The pure equivalence: what is done to a ring, and what it answers -/
theorem lc_cut {r1 nw : Nat → Int32} {c : Int32} {m v q : Nat} (h : qLc r1 nw c m v) (hm : m ≤ 7) (hq : q < m) : qLc (upd r1 (q * 2 + 1) 1) nw (c ||| ((1 : Int32) <<< (nI q &&& 31))) m (v ||| 2 ^ q) := by
  have hv := bw_m h.1.2 hm
  refine ⟨⟨by rw [h.1.1]; exact (bw_or v hv q (by omega)).1, bw_orm m (by omega) v h.1.2 q hq⟩, fun k hk => ?_⟩
  rw [bw_orb v hv q (by omega) k (by omega), pk_un (by omega)]
  by_cases e : k = q
  · subst e
    rw [pk_us, decide_eq_true rfl, Bool.or_true]
    exact ⟨(h.2 k hk).1, rfl⟩
  · rw [pk_un (by omega), decide_eq_false e, Bool.or_false]
    exact h.2 k hk
theorem bw_subm : ∀ m, m < 8 → ∀ v, v < 2 ^ m → ∀ q, q < m → v - 2 ^ q < 2 ^ m := by decide +kernel
theorem lc_heal {r1 nw : Nat → Int32} {c : Int32} {m v q : Nat} (h : qLc r1 nw c m v) (hm : m ≤ 7) (hq : q < m) (ht : v.testBit q = true) : qLc (upd r1 (q * 2 + 1) 0) nw (c - ((1 : Int32) <<< (nI q &&& 31))) m (v - 2 ^ q) := by
  have hv := bw_m h.1.2 hm
  refine ⟨⟨by rw [h.1.1]; exact bw_sub v hv q (by omega) ht, bw_subm m (by omega) v h.1.2 q hq⟩, fun k hk => ?_⟩
  rw [bw_subb v hv q (by omega) ht k (by omega), pk_un (by omega)]
  by_cases e : k = q
  · subst e
    rw [pk_us, decide_eq_true rfl, Bool.not_true, Bool.and_false]
    exact ⟨(h.2 k hk).1, rfl⟩
  · rw [pk_un (by omega), decide_eq_false e, Bool.not_false, Bool.and_true]
    exact h.2 k hk
theorem RQ_lk {R : S2} {nw : Nat → Int32} {n o m v w : Nat} {r1 : Nat → Int32} {x c : Int32} (h : RQ R nw n o m v) (hx : b01 x) (hl : qLc r1 nw c m w) : RQ (u2 (u1 R 1 r1) 5 6 x) (upd (upd nw 16 c) 8 x) n o m w := by
  obtain ⟨g1, g2, g3, g4, g5⟩ := h
  have hm := g1.m7
  have ho4 := g1.2.1.2.2
  have hn6 := g1.1.2.2
  obtain ⟨⟨a1, a2, a3⟩, ⟨b1, b2, b3⟩, cl, ⟨d1, d2, d3, d4, d5, d6⟩, f1, f2⟩ := g1
  have e5 : (u2 (u1 R 1 r1) 5 6 x) 5 = upd (R 5) 6 x := rfl
  have k : ∀ (y : Int32) (j : Nat), j ≠ 16 → j ≠ 8 → (upd (upd nw 16 y) 8 x) j = nw j := fun y j p q => by rw [pk_un q, pk_un p]
  refine ⟨?_, ?_, ?_, ?_, ?_⟩
  · rw [e5]
    show qSc (R 4) _ _ _ _ _
    refine ⟨⟨by rw [pk_un (by decide)]; exact a1, by rw [k _ 0 (by decide) (by decide)]; exact a2, a3⟩, ⟨by rw [pk_un (by decide)]; exact b1, by rw [k _ 3 (by decide) (by decide)]; exact b2, b3⟩, ?_, ⟨?_, ?_, ?_, ?_, ?_, ?_⟩, by rw [pk_un (by decide)]; exact f1, by rw [pk_us]; exact hx⟩
    · rw [pk_un (by decide), k _ 1 (by decide) (by decide)]; exact cl
    · rw [k _ 2 (by decide) (by decide), pk_un (by decide)]; exact d1
    · rw [k _ 4 (by decide) (by decide), pk_un (by decide)]; exact d2
    · rw [k _ 7 (by decide) (by decide), pk_un (by decide)]; exact d3
    · rw [pk_us, pk_us]
    · rw [k _ 5 (by decide) (by decide)]; exact d5
    · rw [k _ 6 (by decide) (by decide)]; exact d6
  · show qLk r1 _ _ _
    refine ⟨⟨by rw [pk_un (by decide), pk_us]; exact hl.1.1, hl.1.2⟩, fun j hj => by rw [k _ (9 + j) (by omega) (by omega)]; exact hl.2 j hj⟩
  · show qDr (R 0) _ _
    exact qDr_row g3 hn6 (fun j p q => k _ j (by omega) (by omega))
  · show qOr (R 2) _ _
    exact qOr_row g4 ho4 (fun j p q => k _ j (by omega) (by omega))
  · show (upd (R 5) 6 x 5 = 1 → qRs (R 3) _ _)
    rw [pk_un (by decide)]
    exact fun h i hi c hc => by rw [k _ _ (by omega) (by omega)]; exact g5 h i hi c hc
theorem RQ_cut {R : S2} {nw : Nat → Int32} {n o m v q : Nat} (h : RQ R nw n o m v) (hq : q < m) : RQ (u2 (u2 R 1 (q * 2 + 1) 1) 5 6 1) (upd (upd nw 16 (nw 16 ||| ((1 : Int32) <<< (nI q &&& 31)))) 8 1) n o m (v ||| 2 ^ q) :=
  RQ_lk h (Or.inr rfl) (lc_cut h.lc h.1.s3.m7.2.1 hq)
theorem RQ_heal {R : S2} {nw : Nat → Int32} {n o m v q : Nat} (h : RQ R nw n o m v) (hq : q < m) (ht : v.testBit q = true) : RQ (u2 R 1 (q * 2 + 1) 0) (upd nw 16 (nw 16 - ((1 : Int32) <<< (nI q &&& 31)))) n o m (v - 2 ^ q) := by
  have g := RQ_lk (x := R 5 6) h h.1.2.2.2.2.2 (lc_heal h.lc h.1.s3.m7.2.1 hq ht)
  have e8 : nw 8 = R 5 6 := h.1.2.2.2.1.2.2.2.1
  have g2 : RQ (u2 (u1 R 1 (upd (R 1) (q * 2 + 1) 0)) 5 6 (R 5 6)) (upd nw 16 (nw 16 - ((1 : Int32) <<< (nI q &&& 31)))) n o m (v - 2 ^ q) := RQ_row g (fun k hk => by
    by_cases z : k = 8
    · subst z; rw [pk_us, pk_un (by decide)]; exact e8
    · rw [pk_un z])
  exact RQ_ring g2 (fun _ _ => rfl) (fun _ _ => rfl) (fun _ _ => rfl) (fun _ _ => rfl) (fun _ _ => rfl) (fun k hk => by
    show R 5 k = upd (R 5) 6 (R 5 6) k
    by_cases z : k = 6
    · subst z; rw [pk_us]
    · rw [pk_un z])
theorem RQ_put {R : S2} {nw : Nat → Int32} {n o m v d c : Nat} {x : Int32} (h : RQ R nw n o m v) (hd : d < n) (hc : c < 9) (h6 : c = 6 → b01 x) : RQ (u2 R 0 (d * 9 + c) x) (upd nw (17 + 9 * d + c) x) n o m v := by
  have hn6 := h.1.1.2.2
  exact RQ_dr h (rKeep.rf.u2 _ _) (fun k hk => by rw [pk_un (by omega)]) (qDr_put h.2.2.1 hc h6)
theorem cuts_eq {R : S2} {nw : Nat → Int32} {c : Int32} {m v : Nat} (h : qLc (R 1) nw c m v) (hm : m ≤ 7) : rCuts R m = mOnes c 8 := by
  rw [rCuts_b h m (Nat.le_refl m), h.1.1]
  exact (bw_ones m (by omega) v h.1.2).symm
theorem safe_eq {R : S2} {nw : Nat → Int32} {n o m v : Nat} (h : RQ R nw n o m v) : rSafe R n = mSafe nw n := fl_cong n (fun i hi a => by rw [(h.2.2.1 i hi).1 6 (by decide)])
theorem off_eq {R : S2} {nw : Nat → Int32} {n o m v d : Nat} (h : RQ R nw n o m v) (hd : d < n) : rOff R d = mOff nw d := by
  unfold rOff mOff
  rw [(h.2.2.1 d hd).1 7 (by decide), (h.2.2.1 d hd).1 8 (by decide)]
theorem spread_eq {R : S2} {nw : Nat → Int32} {n o m v : Nat} (h : RQ R nw n o m v) (h1 : 1 ≤ n) : rMax R (n - 1) - rMin R (n - 1) = mMax nw (n - 1) - mMin nw (n - 1) := by
  have e0 := off_eq h (d := 0) (by omega)
  have a : rMax R (n - 1) = mMax nw (n - 1) := by
    unfold rMax mMax
    rw [e0]
    exact fl_cong (n - 1) (fun i hi a => by rw [off_eq h (d := 1 + i) (by omega)])
  have b : rMin R (n - 1) = mMin nw (n - 1) := by
    unfold rMin mMin
    rw [e0]
    exact fl_cong (n - 1) (fun i hi a => by rw [off_eq h (d := 1 + i) (by omega)])
  rw [a, b]
theorem bw_rB : ∀ n, n < 7 → ∀ f, f < n + 1 → ((1 : Int32) <<< (nI n &&& 31)) - ((1 : Int32) <<< (nI f &&& 31)) = (((1 : Int32) <<< (nI n &&& 31)) - 1) &&& ((((1 : Int32) <<< (nI f &&& 31)) - 1) ^^^ (-1)) := by decide +kernel
def bT (e f n : Nat) : Int32 := (((1 : Int32) <<< (nI e &&& 31)) - 1) ||| (((1 : Int32) <<< (nI n &&& 31)) - ((1 : Int32) <<< (nI f &&& 31)))
def bE (e f n : Nat) : Nat := fl (fun d a => if d < e ∨ f ≤ d then a + 1 else a) n 0
theorem bw_T0 : ∀ n, n < 7 → ∀ e, e < n + 1 → ∀ f, f < n + 1 → (bT e f n = 0 ↔ e = 0 ∧ f = n) := by decide +kernel
def bTb (e f n : Nat) : Bool := (List.range n).all (fun d => decide ((bT e f n >>> (nI d &&& 31)) &&& 1 = 1) == decide (d < e ∨ f ≤ d))
theorem bw_Tb0 : ∀ n, n < 7 → ∀ e, e < n + 1 → ∀ f, f < n + 1 → bTb e f n = true := by decide +kernel
theorem bw_Tb (n : Nat) (hn : n < 7) (e : Nat) (he : e < n + 1) (f : Nat) (hf : f < n + 1) (d : Nat) (hd : d < n) : ((bT e f n >>> (nI d &&& 31)) &&& 1 = 1 ↔ d < e ∨ f ≤ d) := by
  have h := List.all_eq_true.mp (bw_Tb0 n hn e he f hf) d (List.mem_range.mpr hd)
  exact decide_eq_decide.mp (beq_iff_eq.mp h)
theorem bw_Tc : ∀ n, n < 7 → ∀ e, e < n + 1 → ∀ f, f < n + 1 → bcnt (bT e f n) = nI (bE e f n) := by decide +kernel
theorem mL_le (nw : Nat → Int32) (c : Int32) (n : Nat) : mL nw c n ≤ n := by
  unfold mL; split
  · omega
  · exact mA_le c n
theorem turn_eq {R : S2} {nw : Nat → Int32} {n o m v : Nat} (h : RQ R nw n o m v) : rTurn R n m = bT (mL nw (nw 16) n) (mB nw (nw 16) n) n := by
  have hm := h.1.s3.m7
  have hw := whole_iff h.1.s3 h.lc
  unfold rTurn mL
  by_cases w : nw 1 = 1 ∧ nw 16 = 0
  · rw [if_pos (hw.mpr w), if_pos w]
    have e : mB nw (nw 16) n = n := by
      unfold mB
      split
      · rfl
      · rw [if_pos w.2]
    rw [e]
    exact ((bw_T0 n (by omega) 0 (by omega) n (by omega)).mpr ⟨rfl, rfl⟩).symm
  · rw [if_neg (fun g => w (hw.mp g)), if_neg w, eA_eq h.lc hm.2.2 hm.2.1, (sB_eq h.1.s3 h.lc).1, h.1.1.1]
    rfl
theorem mMe_2 {e f : Nat} {N : Nat → Int32} (n : Nat) : (mMe e f N n).2 = nI (bE e f n) :=
  fl_rel (σ := (Nat → Int32) × Int32) (τ := Nat) (fun t a => t.2 = nI a) n rfl (fun d t a _ h => by
    by_cases c : d < e ∨ f ≤ d
    · rw [if_pos c, if_pos c, ← nI_1, ← h]
    · rw [if_neg c, if_neg c]; exact h)
theorem learn_eq {R : S2} {nw : Nat → Int32} {n o m v e f : Nat} (h : RQ R nw n o m v) (he : e ≤ n) (hf : f ≤ n) : RQ (rLearn R (bT e f n) n) (mMe e f nw n).1 n o m v ∧ (rLearn R (bT e f n) n) 5 = R 5 := by
  have hn6 := h.1.1.2.2
  have g := fl_rel (σ := S2) (τ := (Nat → Int32) × Int32) (f := fun i S => if (bT e f n >>> (nI i &&& 31)) &&& 1 = 1 then u2 S 0 (i * 9 + 8) (S 0 (i * 9 + 7)) else S) (g := fun d t => if d < e ∨ f ≤ d then (upd t.1 (17 + 9 * d + 8) (t.1 (17 + 9 * d + 7)), t.2 + 1) else t) (fun S t => RQ S t.1 n o m v) n (s := R) (t := (nw, 0)) h (fun d S t hd q => by
    have b := bw_Tb n (by omega) e (by omega) f (by omega) d hd
    by_cases c : d < e ∨ f ≤ d
    · rw [if_pos (b.mpr c), if_pos c, (q.2.2.1 d hd).1 7 (by decide)]
      exact RQ_put q hd (by decide) (fun h => absurd h (by decide))
    · rw [if_neg (fun x => c (b.mp x)), if_neg c]; exact q)
  exact ⟨g, rLearn_5 _ _ _⟩
