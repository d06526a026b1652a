/-! The pure equivalence: a drive handles a frame -/
def svm (sv : Int32) (me : Nat → Int32) (n : Nat) : Prop := ∃ w : Nat, w < 64 ∧ sv = nI w ∧ ∀ d, d < n → b01 (me d) ∧ (me d = 1 ↔ w.testBit d = true)
theorem bw_64 : ∀ v, v < 64 → ∀ q, q < 6 → (v ||| 2 ^ q) < 64 := by decide +kernel
theorem svm_set {sv : Int32} {me : Nat → Int32} {n d : Nat} (h : svm sv me n) (hn : n ≤ 6) (hd : d < n) : svm (sv ||| ((1 : Int32) <<< (nI d &&& 31))) (upd me d 1) n := by
  obtain ⟨w, hw, e, hb⟩ := h
  refine ⟨w ||| 2 ^ d, bw_64 w hw d (by omega), by rw [e]; exact (bw_or w (by omega) d (by omega)).1, fun k hk => ?_⟩
  rw [bw_orb w (by omega) d (by omega) k (by omega)]
  by_cases x : k = d
  · subst x
    rw [pk_us]
    exact ⟨Or.inr rfl, fun _ => by simp, fun _ => rfl⟩
  · rw [pk_un x]
    refine ⟨(hb k hk).1, ?_⟩
    rw [(hb k hk).2, decide_eq_false x, Bool.or_false]
theorem svm_bit {sv : Int32} {me : Nat → Int32} {n d : Nat} (h : svm sv me n) (hn : n ≤ 6) (hd : d < n) : (sv >>> (nI d &&& 31)) &&& 1 = 1 ↔ me d = 1 := by
  obtain ⟨w, hw, e, hb⟩ := h
  rw [e, (hb d hd).2]
  exact bw_has w (by omega) d (by omega)
theorem qDr_put {r0 nw : Nat → Int32} {n d c : Nat} {x : Int32} (h : qDr r0 nw n) (hc : c < 9) (h6 : c = 6 → b01 x) : qDr (upd r0 (d * 9 + c) x) (upd nw (17 + 9 * d + c) x) n := fun e he => by
  obtain ⟨a, b⟩ := h e he
  refine ⟨fun j hj => ?_, ?_⟩
  · by_cases q : e = d ∧ j = c
    · obtain ⟨rfl, rfl⟩ := q
      rw [pk_us, pk_us]
    · rw [pk_un (by omega), pk_un (by omega)]; exact a j hj
  · by_cases q : e = d ∧ c = 6
    · obtain ⟨rfl, rfl⟩ := q
      rw [pk_us]; exact h6 rfl
    · rw [pk_un (by omega)]; exact b
theorem qOr_row {r2 nw nw' : Nat → Int32} {o : Nat} (h : qOr r2 nw o) (ho : o ≤ 4) (e : ∀ k, 71 ≤ k → k < 91 → nw' k = nw k) : qOr r2 nw' o := fun i hi => by
  obtain ⟨a, b⟩ := h i hi
  exact ⟨fun c hc => by rw [e _ (by omega) (by omega)]; exact a c hc, b⟩
theorem qDr_row {r0 nw nw' : Nat → Int32} {n : Nat} (h : qDr r0 nw n) (hn : n ≤ 6) (e : ∀ k, 17 ≤ k → k < 71 → nw' k = nw k) : qDr r0 nw' n := fun i hi => by
  obtain ⟨a, b⟩ := h i hi
  exact ⟨fun c hc => by rw [e _ (by omega) (by omega)]; exact a c hc, b⟩
theorem for_iff {a b s p p' : Int32} (ha : qPsb a) (hp : a = 112 → p = p') : ((a = 112 ∧ p = 0) ∨ (¬ a = 112 ∧ (a = 98 ∨ b = s))) ↔ (a = 98 ∨ (a = 115 ∧ b = s) ∨ (a = 112 ∧ p' = 0)) := by
  rcases ha with rfl | rfl | rfl
  · constructor
    · rintro (⟨_, h⟩ | ⟨h, _⟩)
      · exact Or.inr (Or.inr ⟨rfl, (hp rfl).symm.trans h⟩)
      · exact absurd rfl h
    · rintro (h | ⟨h, _⟩ | ⟨_, h⟩)
      · exact absurd h (by decide)
      · exact absurd h (by decide)
      · exact Or.inl ⟨rfl, (hp rfl).trans h⟩
  · constructor
    · rintro (⟨h, _⟩ | ⟨_, h | h⟩)
      · exact absurd h (by decide)
      · exact absurd h (by decide)
      · exact Or.inr (Or.inl ⟨rfl, h⟩)
    · rintro (h | ⟨_, h⟩ | ⟨h, _⟩)
      · exact absurd h (by decide)
      · exact Or.inr ⟨by decide, Or.inr h⟩
      · exact absurd h (by decide)
  · exact ⟨fun _ => Or.inl rfl, fun _ => Or.inr ⟨by decide, Or.inl rfl⟩⟩
def PS (q n o : Nat) (c : S2 × S2 × Int32) (s : M5) : Prop :=
  (qDr (c.2.1 0) s.1 n ∧ qOr (c.2.1 2) s.1 o ∧ svm c.2.2 s.2.2.2.2 n) ∧ (∀ i, i < o → c.1 0 i = s.2.1 (4 * q + i)) ∧ (∀ i, i < o → c.1 1 i = s.2.2.1 (4 * q + i)) ∧ (∀ i, i < o → c.2.1 2 (i * 5 + 1) = 112 → c.1 2 i = s.2.2.2.1 i)
theorem up2 {f g : Nat → Int32} {q i o : Nat} (h : ∀ j, j < o → f j = g (4 * q + j)) {x y : Int32} (e : x = y) : ∀ j, j < o → upd f i x j = upd g (4 * q + i) y (4 * q + j) := fun j hj => by
  by_cases k : j = i
  · subst k; rw [pk_us, pk_us, e]
  · rw [pk_un k, pk_un (by omega)]; exact h j hj
theorem cPl_k {C R : S2} {i k : Nat} (hk : k ≠ 2) : cPl C R i k = C k := by
  unfold cPl; split
  · exact u2_n hk
  · rfl
theorem pl_eq {C R : S2} {pl : Nat → Int32} {i o : Nat} (h : ∀ j, j < o → R 2 (j * 5 + 1) = 112 → C 2 j = pl j) : ∀ j, j < o → R 2 (j * 5 + 1) = 112 → cPl C R i 2 j = upd pl i (pl i - 1) j := fun j hj ha => by
  unfold cPl
  by_cases k : j = i
  · subst k
    rw [if_pos ha, u2_ss, pk_us, h j hj ha]
  · rw [pk_un k]
    by_cases c : R 2 (i * 5 + 1) = 112
    · rw [if_pos c, u2_sn k]; exact h j hj ha
    · rw [if_neg c]; exact h j hj ha
theorem oC_2 {C R : S2} {i d t : Nat} : oC C R i d t 2 = C 2 := by
  unfold oC; split
  · rfl
  · split
    · rfl
    · split <;> rfl
theorem u20 {C : S2} {i : Nat} {v w : Int32} : u2 (u2 C 0 i v) 1 i w 0 = upd (C 0) i v := rfl
theorem u21 {C : S2} {i : Nat} {v w : Int32} : u2 (u2 C 0 i v) 1 i w 1 = upd (C 1) i w := rfl
theorem u22 {C : S2} {i : Nat} {w : Int32} : u2 C 1 i w 1 = upd (C 1) i w := rfl
theorem u23 {C : S2} {i : Nat} {w : Int32} : u2 C 1 i w 0 = C 0 := rfl
theorem pStep_eq {q n o d i : Nat} {c : S2 × S2 × Int32} {s : M5} (hn : n ≤ 6) (ho : o ≤ 4) (hd : d < n) (hi : i < o) (h : PS q n o c s) : PS q n o (pStep d i c) (mH q d i s) := by
  obtain ⟨C, R, sv⟩ := c
  obtain ⟨nw, da, co, pl, me⟩ := s
  obtain ⟨⟨hD, hO, hS⟩, h0, h1, h2⟩ := h
  dsimp only at hD hO hS h0 h1 h2
  obtain ⟨e, hl, ha, t, ht, et⟩ := id (hO i hi)
  have e0 : nw (71 + 5 * i) = R 2 (i * 5 + 0) := e 0 (by decide)
  have e1 : nw (71 + 5 * i + 1) = R 2 (i * 5 + 1) := e 1 (by decide)
  have e2 : nw (71 + 5 * i + 2) = R 2 (i * 5 + 2) := e 2 (by decide)
  have e3 : nw (71 + 5 * i + 3) = R 2 (i * 5 + 3) := e 3 (by decide)
  have t1 : atn R i = t := by unfold atn; rw [et]; exact nI_clamp (by omega)
  have t2 : mt nw i = t := by unfold mt; rw [e3, et]; exact nI_clamp (by omega)
  obtain ⟨f, fs⟩ := hD d hd
  have f0 : nw (17 + 9 * d) = R 0 (d * 9 + 0) := f 0 (by decide)
  have f6 : nw (17 + 9 * d + 6) = R 0 (d * 9 + 6) := f 6 (by decide)
  have ft : nw (17 + 9 * d + 1 + t) = R 0 (d * 9 + (1 + t)) := by rw [Nat.add_assoc]; exact f (1 + t) (by omega)
  have hfor : cFor C R i d ↔ mIs nw pl i d := by
    show _ ↔ (nw (71 + 5 * i + 1) = 98 ∨ (nw (71 + 5 * i + 1) = 115 ∧ nw (71 + 5 * i + 2) = nw (17 + 9 * d)) ∨ (nw (71 + 5 * i + 1) = 112 ∧ pl i = 0))
    rw [e1, e2, f0]
    exact for_iff ha (h2 i hi)
  unfold pStep mH
  dsimp only
  by_cases hf : cFor C R i d
  · rw [if_pos hf, if_pos (hfor.mp hf), t1]
    have hc0 : cPl C R i 0 = C 0 := cPl_k (by decide)
    have hc1 : cPl C R i 1 = C 1 := cPl_k (by decide)
    have hp := pl_eq (i := i) h2
    generalize cPl C R i = C' at hc0 hc1 hp
    have hO' : ∀ N : Nat → Int32, mKeep nw N → qOr (oR C' R i d t 2) N o := fun N hN => by
      rw [oR_keep (C := C') (R := R) (i := i) (d := d) (t := t) 2 (by decide)]
      exact qOr_row hO ho (fun k hk _ => hN k (Or.inr hk))
    have ep : 17 + 9 * d + 1 + t = 17 + 9 * d + (1 + t) := by omega
    have o2 : oR C' R i d t 2 = R 2 := oR_keep 2 (by decide)
    refine ⟨⟨?_, hO' _ (mHn_keep (by omega) (by rw [t2]; exact ht)), svm_set hS hn hd⟩, ?_, ?_, ?_⟩
    · dsimp only
      unfold oR mHn
      have hc0i : C' 0 i = da (4 * q + i) := by rw [hc0]; exact h0 i hi
      rw [e0, t2, f6, hc0i]
      by_cases c : R 2 (i * 5 + 0) = 114
      · rw [if_pos c, if_pos c]; exact hD
      · rw [if_neg c, if_neg c]
        by_cases b : R 0 (d * 9 + 6) = 1
        · rw [if_pos b, if_pos b, upd_self]; exact hD
        · rw [if_neg b, if_neg b, ep]
          exact qDr_put hD (by omega) (by omega)
    · dsimp only
      unfold oC mHd
      rw [e0, e1, t2, ft]
      by_cases c : R 2 (i * 5 + 0) = 114
      · rw [if_pos c, if_pos c, u20, hc0]
        exact up2 h0 (by rw [h0 i hi])
      · rw [if_neg c, if_neg c]
        rcases hl with l | l | l
        · exact absurd l c
        · rw [if_pos l, if_neg (show ¬ R 2 (i * 5 + 0) = 120 by rw [l]; decide)]
          by_cases b : R 0 (d * 9 + 6) = 1
          · rw [if_pos b, hc0]; exact h0
          · rw [if_neg b, u23, hc0]; exact h0
        · rw [if_pos l, if_neg (show ¬ R 2 (i * 5 + 0) = 119 by rw [l]; decide), u20, hc0]
          exact up2 h0 rfl
    · dsimp only
      unfold oC mHc
      rw [e0, f6]
      by_cases c : R 2 (i * 5 + 0) = 114
      · rw [if_pos c, if_pos c, u21, hc1]
        exact up2 h1 (by rw [h1 i hi])
      · rw [if_neg c, if_neg c]
        rcases hl with l | l | l
        · exact absurd l c
        · rw [if_pos l, if_neg (show ¬ R 2 (i * 5 + 0) = 120 by rw [l]; decide)]
          by_cases b : R 0 (d * 9 + 6) = 1
          · rw [if_pos b, if_pos b, hc1, Int32.add_zero, upd_self]; exact h1
          · rw [if_neg b, if_neg b, u22, hc1]
            exact up2 h1 (by rw [h1 i hi])
        · rw [if_pos l, if_neg (show ¬ R 2 (i * 5 + 0) = 119 by rw [l]; decide), u21, hc1]
          exact up2 h1 (by rw [h1 i hi])
    · dsimp only
      rw [oC_2, o2]
      exact hp
  · rw [if_neg hf, if_neg (fun g => hf (hfor.mpr g))]
    refine ⟨⟨hD, hO, hS⟩, ?_, ?_, pl_eq h2⟩
    · dsimp only
      rw [cPl_k (by decide)]; exact h0
    · dsimp only
      rw [cPl_k (by decide)]; exact h1
/-- what the other copy has, is kept -/
def KP (q : Nat) (s s' : M5) : Prop := ∀ k, (k < 4 * q ∨ 4 * q + 4 ≤ k) → s'.2.1 k = s.2.1 k ∧ s'.2.2.1 k = s.2.2.1 k
theorem mH_kp {q d i : Nat} {s s0 : M5} (hi : i < 4) (h : KP q s0 s) : KP q s0 (mH q d i s) := fun k hk => by
  obtain ⟨a, b⟩ := h k hk
  have ne : k ≠ 4 * q + i := by omega
  unfold mH
  split
  · refine ⟨?_, ?_⟩
    · show mHd s.1 s.2.1 q i d k = _
      unfold mHd
      split
      · rw [pk_un ne]; exact a
      · split
        · exact a
        · rw [pk_un ne]; exact a
    · show mHc s.1 s.2.2.1 q i d k = _
      unfold mHc
      split
      · rw [pk_un ne]; exact b
      · split
        · rw [pk_un ne]; exact b
        · rw [pk_un ne]; exact b
  · exact ⟨a, b⟩
theorem pAll_eq {q n o d : Nat} {s0 : M5} (hn : n ≤ 6) (ho : o ≤ 4) (hd : d < n) {c : S2 × S2 × Int32} {s : M5} (h : PS q n o c s ∧ KP q s0 s) : PS q n o (pAll o d c) (mDr q o d s) ∧ KP q s0 (mDr q o d s) :=
  fl_rel (fun c s => PS q n o c s ∧ KP q s0 s) o h (fun i c s hi h => ⟨pStep_eq hn ho hd hi h.1, mH_kp (by omega) h.2⟩)
theorem pass_eq {q n o f l : Nat} {s0 : M5} (hn : n ≤ 6) (ho : o ≤ 4) (hf : f + l ≤ n) {c : S2 × S2 × Int32} {s : M5} (h : PS q n o c s ∧ KP q s0 s) : PS q n o (fl (fun j t => pAll o (f + j) t) l c) (fl (fun j s => mDr q o (f + j) s) l s) ∧ KP q s0 (fl (fun j s => mDr q o (f + j) s) l s) :=
  fl_rel (fun c s => PS q n o c s ∧ KP q s0 s) l h (fun i c s hi h => pAll_eq hn ho (by omega) h)
