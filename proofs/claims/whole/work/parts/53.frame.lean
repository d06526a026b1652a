/-! The pure equivalence: frames read -/
def FI (D0 D : S2) (Q : Nat → Int32) (o : Nat) : Prop := (∀ k, k ≠ 2 → k ≠ 5 → D k = D0 k) ∧ (∀ j, j ≠ 1 → D 5 j = D0 5 j) ∧ D 5 1 = nI o ∧ Q 3 = nI o ∧ o ≤ 4 ∧ qOr (D 2) Q o
theorem FI_add {D0 D : S2} {Q Q' : Nat → Int32} {o t : Nat} {x1 x2 x3 x4 x5 : Int32} (h : FI D0 D Q o) (ho : o < 4) (h3 : Q' 3 = nI (o + 1)) (hk : ∀ k, 71 ≤ k → k < 71 + 5 * o → Q' k = Q k) (e1 : Q' (71 + 5 * o) = x1) (e2 : Q' (71 + 5 * o + 1) = x2) (e3 : Q' (71 + 5 * o + 2) = x3) (e4 : Q' (71 + 5 * o + 3) = x4) (e5 : Q' (71 + 5 * o + 4) = x5) (k1 : qRwx x1) (k2 : qPsb x2) (k3 : t ≤ 3) (k4 : x4 = nI t) : FI D0 (rAddOrder D o x1 x2 x3 x4 x5) Q' (o + 1) := by
  obtain ⟨a1, a2, a3, a4, a5, a6⟩ := h
  have r2 : rAddOrder D o x1 x2 x3 x4 x5 2 = upd (upd (upd (upd (upd (D 2) (o * 5 + 0) x1) (o * 5 + 1) x2) (o * 5 + 2) x3) (o * 5 + 3) x4) (o * 5 + 4) x5 := rfl
  have r5 : rAddOrder D o x1 x2 x3 x4 x5 5 = upd (D 5) 1 (D 5 1 + 1) := rfl
  refine ⟨fun k h2 h5 => ?_, fun j hj => by rw [r5, pk_un hj]; exact a2 j hj, by rw [r5, pk_us, a3, nI_1], h3, by omega, ?_⟩
  · rw [← a1 k h2 h5]
    show u2 _ _ _ _ k = _
    rw [u2_n h5, u2_n h2, u2_n h2, u2_n h2, u2_n h2, u2_n h2]
  · rw [r2]
    intro i hi
    by_cases e : i = o
    · subst e
      have f0 : ∀ c, c < 5 → (upd (upd (upd (upd (upd (D 2) (i * 5 + 0) x1) (i * 5 + 1) x2) (i * 5 + 2) x3) (i * 5 + 3) x4) (i * 5 + 4) x5) (i * 5 + c) = Q' (71 + 5 * i + c) := fun c hc => by
        rcases (by omega : c = 0 ∨ c = 1 ∨ c = 2 ∨ c = 3 ∨ c = 4) with rfl | rfl | rfl | rfl | rfl
        · rw [pk_un (by omega), pk_un (by omega), pk_un (by omega), pk_un (by omega), pk_us]; exact e1.symm
        · rw [pk_un (by omega), pk_un (by omega), pk_un (by omega), pk_us]; exact e2.symm
        · rw [pk_un (by omega), pk_un (by omega), pk_us]; exact e3.symm
        · rw [pk_un (by omega), pk_us]; exact e4.symm
        · rw [pk_us]; exact e5.symm
      refine ⟨fun c hc => (f0 c hc).symm, ?_, ?_, t, k3, ?_⟩
      · rw [f0 0 (by decide), show 71 + 5 * i + 0 = 71 + 5 * i from rfl, e1]; exact k1
      · rw [f0 1 (by decide), e2]; exact k2
      · rw [f0 3 (by decide), e4]; exact k4
    · have f0 : ∀ c, c < 5 → (upd (upd (upd (upd (upd (D 2) (o * 5 + 0) x1) (o * 5 + 1) x2) (o * 5 + 2) x3) (o * 5 + 3) x4) (o * 5 + 4) x5) (i * 5 + c) = D 2 (i * 5 + c) := fun c hc => by
        rw [pk_un (by omega), pk_un (by omega), pk_un (by omega), pk_un (by omega), pk_un (by omega)]
      obtain ⟨b1, b2, b3, t', b4, b5⟩ := a6 i (by omega)
      refine ⟨fun c hc => by rw [f0 c hc, hk _ (by omega) (by omega)]; exact b1 c hc, by rw [f0 0 (by decide)]; exact b2, by rw [f0 1 (by decide)]; exact b3, t', b4, by rw [f0 3 (by decide)]; exact b5⟩
theorem num_nat {L : Nat → Int32} {z : Nat} (hL : okL L z) {p : Nat × Int32} {a : Int32} (h : tO L z p a 3) : ∃ t : Nat, t ≤ 3 ∧ tU L z p = nI t := by
  obtain ⟨_, y, hy, e⟩ := tkv hL (u := p.2) (u' := p.2) h.1
  have h3 : tV L z p.1 p.2 ≤ 3 := h.2.2
  rw [e] at h3
  exact ⟨y, rf_leP rfl (nl 3) (by omega) (by omega) h3, e⟩
theorem ord3_eq {L : Nat → Int32} {z : Nat} (hL : okL L z) {D0 D : S2} {Q Q1 : Nat → Int32} {o : Nat} (hF : FI D0 D Q o) (ho : o < 4) {l a n : Int32} {p p' : Nat × Int32} (hp : p.1 = (mS L z p').1) (k1 : qRwx l) (k2 : qPsb a) (h3 : Q1 3 = nI o) (hk : ∀ k, 71 ≤ k → k < 71 + 5 * o → Q1 k = Q k) (e1 : Q1 (71 + 5 * o) = l) (e2 : Q1 (71 + 5 * o + 1) = a) (e3 : Q1 (71 + 5 * o + 2) = n) : IE (qOrd3 L z D l a n p) (mqO3 L z (71 + 5 * o) Q1 p') L z (fun D Q => FI D0 D Q (o + 1)) := by
  have s2 := tmS (L := L) (z := z) hp
  have s3 := tmS (L := L) (z := z) s2
  have s4 := tmS (L := L) (z := z) s3
  unfold qOrd3 mqO3
  by_cases o1 : tO L z p 0 3
  · have o1' := (tmO hL hp).mp o1
    rw [if_neg (not_not_intro o1), if_neg (not_not_intro o1')]
    by_cases o2 : tO L z (tS L z p) 0 255
    · have o2' := (tmO hL s2).mp o2
      rw [if_neg (not_not_intro o2), if_neg (not_not_intro o2')]
      by_cases h59 : tK L z (tS L z (tS L z p)).1 = 59
      · have h59' := (tmK hL s3 (Or.inr rfl)).mp h59
        rw [if_neg (not_not_intro h59)]
        refine Or.inr ⟨rfl, decide_eq_true h59', ?_, s4⟩
        obtain ⟨t, ht, et⟩ := num_nat hL o1
        have eo : on D = o := (okO_of hF.2.2.1 hF.2.2.2.2.1).2
        show FI D0 (rAddOrder D (on D) _ _ _ _ _) _ _
        rw [eo, tmU hL hp o1, tmU hL s2 o2]
        refine FI_add (t := t) hF ho ?_ (fun k x y => ?_) ?_ ?_ ?_ ?_ ?_ k1 k2 ht (by rw [← tmU hL hp o1]; exact et)
        · dsimp only
          rw [pk_us, pk_un (by omega), pk_un (by omega), h3, nI_1]
        · dsimp only
          rw [pk_un (by omega), pk_un (by omega), pk_un (by omega)]; exact hk k x y
        · dsimp only
          rw [pk_un (by omega), pk_un (by omega), pk_un (by omega)]; exact e1
        · dsimp only
          rw [pk_un (by omega), pk_un (by omega), pk_un (by omega)]; exact e2
        · dsimp only
          rw [pk_un (by omega), pk_un (by omega), pk_un (by omega)]; exact e3
        · dsimp only
          rw [pk_un (by omega), pk_un (by omega), pk_us]
        · dsimp only
          rw [pk_un (by omega), pk_us]
      · rw [if_pos h59]
        exact Or.inl ⟨rfl, decide_eq_false (fun h => h59 ((tmK hL s3 (Or.inr rfl)).mpr h)), s3⟩
    · rw [if_pos o2, if_pos (show ¬ mO L z (mS L z (mS L z p')) 0 255 from fun h => o2 ((tmO hL s2).mpr h))]
      exact Or.inl ⟨rfl, rfl, s2⟩
  · rw [if_pos o1, if_pos (show ¬ mO L z (mS L z p') 0 3 from fun h => o1 ((tmO hL hp).mpr h))]
    exact Or.inl ⟨rfl, rfl, hp⟩
theorem TKR_let {t m : Int32} (h : TKR t m) (hm : mLet m ∨ m = 59) : t = m := ((TKR_eq h hm).mpr rfl)
theorem order_eq {L : Nat → Int32} {z : Nat} (hL : okL L z) {D0 D : S2} {Q : Nat → Int32} {o : Nat} (hF : FI D0 D Q o) {p p' : Nat × Int32} (hp : p.1 = p'.1) : IE (qOrder L z D p) (mqOrd L z Q p') L z (fun D Q => FI D0 D Q (o + 1)) := by
  have s1 := tmS (L := L) (z := z) hp
  have s2 := tmS (L := L) (z := z) s1
  have s3 := tmS (L := L) (z := z) s2
  have hD := hF.2.2.1
  have hQ := hF.2.2.2.1
  have ho4 := hF.2.2.2.2.1
  unfold qOrder
  have t1 : tK L z p.1 = 114 ↔ mK L z p'.1 = 114 := tmK hL hp (Or.inl (by decide))
  have t2 : tK L z p.1 = 119 ↔ mK L z p'.1 = 119 := tmK hL hp (Or.inl (by decide))
  have t3 : tK L z p.1 = 120 ↔ mK L z p'.1 = 120 := tmK hL hp (Or.inl (by decide))
  by_cases hr : qRwx (tK L z p.1)
  · have hr' : mqOrd L z Q p' = mqOrder L z Q p' := by
      unfold mqOrd
      rcases hr with h | h | h
      · rw [if_pos (t1.mp h)]
      · by_cases c : mK L z p'.1 = 114
        · rw [if_pos c]
        · rw [if_neg c, if_pos (t2.mp h)]
      · by_cases c : mK L z p'.1 = 114
        · rw [if_pos c]
        · by_cases c2 : mK L z p'.1 = 119
          · rw [if_neg c, if_pos c2]
          · rw [if_neg c, if_neg c2, if_pos (t3.mp h)]
    have ek : mK L z p'.1 = tK L z p.1 := by
      rcases hr with h | h | h
      · rw [h, t1.mp h]
      · rw [h, t2.mp h]
      · rw [h, t3.mp h]
    rw [hr']
    unfold mqOrder
    by_cases h4 : o = 4
    · rw [if_pos (show ¬ (¬ 4 ≤ D 5 1 ∧ qRwx (tK L z p.1)) from fun h => h.1 (by rw [hD, h4]; decide)), if_pos (show Q 3 = 4 by rw [hQ, h4]; rfl)]
      exact Or.inl ⟨rfl, rfl, hp⟩
    · rw [if_neg (not_not_intro ⟨by rw [hD]; exact rf_geMN rfl (nl 4) (by omega) (by omega) (by omega), hr⟩), if_neg (show ¬ Q 3 = 4 by rw [hQ]; exact rf_eqMN rfl (nl 4) (by omega) (by omega) h4)]
      have eqo : qo Q = o := by unfold qo; rw [hQ]; exact nI_clamp (by omega)
      rw [eqo, ek]
      have p1 : tK L z (tS L z p).1 = 112 ↔ mK L z (mS L z p').1 = 112 := tmK hL s1 (Or.inl (by decide))
      have p2 : tK L z (tS L z p).1 = 115 ↔ mK L z (mS L z p').1 = 115 := tmK hL s1 (Or.inl (by decide))
      have p3 : tK L z (tS L z p).1 = 98 ↔ mK L z (mS L z p').1 = 98 := tmK hL s1 (Or.inl (by decide))
      generalize hQ1 : upd (upd (upd Q (71 + 5 * o) (tK L z p.1)) (71 + 5 * o + 1) (mK L z (mS L z p').1)) (71 + 5 * o + 2) (-9) = Q1
      have w3 : Q1 3 = nI o := by rw [← hQ1, pk_un (by omega), pk_un (by omega), pk_un (by omega)]; exact hQ
      have wk : ∀ k, 71 ≤ k → k < 71 + 5 * o → Q1 k = Q k := fun k x y => by rw [← hQ1, pk_un (by omega), pk_un (by omega), pk_un (by omega)]
      have w0 : Q1 (71 + 5 * o) = tK L z p.1 := by rw [← hQ1, pk_un (by omega), pk_un (by omega), pk_us]
      have w1 : Q1 (71 + 5 * o + 1) = mK L z (mS L z p').1 := by rw [← hQ1, pk_un (by omega), pk_us]
      have w2 : Q1 (71 + 5 * o + 2) = -9 := by rw [← hQ1, pk_us]
      unfold mqO1
      by_cases hb : tK L z (tS L z p).1 = 98
      · have hb' := p3.mp hb
        rw [if_neg (show ¬ ¬ qPsb (tK L z (tS L z p).1) from not_not_intro (Or.inr (Or.inr hb))), if_pos hb, if_neg (show ¬ mK L z (mS L z p').1 = 112 by rw [hb']; decide), if_neg (show ¬ mK L z (mS L z p').1 = 115 by rw [hb']; decide), if_pos hb']
        exact ord3_eq hL hF (by omega) s2 hr (Or.inr (Or.inr hb)) w3 wk w0 (by rw [w1, hb', hb]) w2
      · have two : ∀ (ha : qPsb (tK L z (tS L z p).1)) (ea : mK L z (mS L z p').1 = tK L z (tS L z p).1), IE (if ¬ tO L z (tS L z (tS L z p)) 0 15 then (false, D, tS L z (tS L z p)) else qOrd3 L z D (tK L z p.1) (tK L z (tS L z p).1) (tU L z (tS L z (tS L z p))) (tS L z (tS L z (tS L z p)))) (mqO2 L z (71 + 5 * o) Q1 (mS L z p')) L z (fun D Q => FI D0 D Q (o + 1)) := fun ha ea => by
          unfold mqO2
          by_cases o1 : tO L z (tS L z (tS L z p)) 0 15
          · have o1' := (tmO hL s2).mp o1
            rw [if_neg (not_not_intro o1), if_neg (not_not_intro o1')]
            refine ord3_eq hL hF (by omega) s3 hr ha ?_ (fun k x y => ?_) ?_ ?_ ?_
            · rw [pk_un (by omega)]; exact w3
            · rw [pk_un (by omega)]; exact wk k x y
            · rw [pk_un (by omega)]; exact w0
            · rw [pk_un (by omega), w1]; exact ea
            · rw [pk_us, tmU hL s2 o1]
          · rw [if_pos o1, if_pos (show ¬ mO L z (mS L z (mS L z p')) 0 15 from fun h => o1 ((tmO hL s2).mpr h))]
            exact Or.inl ⟨rfl, rfl, s2⟩
        by_cases hp1 : tK L z (tS L z p).1 = 112
        · rw [if_neg (show ¬ ¬ qPsb (tK L z (tS L z p).1) from not_not_intro (Or.inl hp1)), if_neg hb, if_pos (p1.mp hp1)]
          exact two (Or.inl hp1) (by rw [p1.mp hp1, hp1])
        · by_cases hp2 : tK L z (tS L z p).1 = 115
          · rw [if_neg (show ¬ ¬ qPsb (tK L z (tS L z p).1) from not_not_intro (Or.inr (Or.inl hp2))), if_neg hb, if_neg (fun h => hp1 (p1.mpr h)), if_pos (p2.mp hp2)]
            exact two (Or.inr (Or.inl hp2)) (by rw [p2.mp hp2, hp2])
          · rw [if_pos (show ¬ qPsb (tK L z (tS L z p).1) from fun h => by rcases h with h | h | h; exact hp1 h; exact hp2 h; exact hb h), if_neg (fun h => hp1 (p1.mpr h)), if_neg (fun h => hp2 (p2.mpr h)), if_neg (fun h => hb (p3.mpr h))]
            exact Or.inl ⟨rfl, rfl, s1⟩
  · rw [if_pos (show ¬ (¬ 4 ≤ D 5 1 ∧ qRwx (tK L z p.1)) from fun h => hr h.2)]
    unfold mqOrd
    rw [if_neg (fun h => hr (Or.inl (t1.mpr h))), if_neg (fun h => hr (Or.inr (Or.inl (t2.mpr h)))), if_neg (fun h => hr (Or.inr (Or.inr (t3.mpr h))))]
    exact Or.inl ⟨rfl, rfl, hp⟩
def FE (D0 : S2) (a : Bool × S2 × (Nat × Int32)) (b : Int32 × (Nat → Int32) × (Nat × Int32)) (L : Nat → Int32) (z : Nat) : Prop :=
  (a.1 = false ∧ b.1 = nI (tP L z a.2.2.1) ∧ tP L z a.2.2.1 ≤ z) ∨ (a.1 = true ∧ b.1 = -9 ∧ ∃ o, FI D0 a.2.1 b.2.1 o)
theorem frame_eq {L : Nat → Int32} {z : Nat} (hL : okL L z) {D0 : S2} : ∀ (f g : Nat) {D : S2} {Q : Nat → Int32} {o : Nat} {p p' : Nat × Int32}, FI D0 D Q o → p.1 = p'.1 → p.1 ≤ z → z - p.1 ≤ f → z - p.1 < g → FE D0 (qFrame L z f D p) (mqFrame L z g Q p') L z := by
  have fin : ∀ {D : S2} {Q : Nat → Int32} {o : Nat} {p p' : Nat × Int32}, FI D0 D Q o → p.1 = p'.1 → p.1 ≤ z → tK L z p.1 = 257 → FE D0 (decide (¬ D 5 1 ≤ 0), D, p) ((if Q 3 = 0 then nI z else -9), Q, p') L z := by
    intro D Q o p p' hW hp hz he
    obtain ⟨_, _, a1, a2, a3, _⟩ := id hW
    by_cases h0 : o = 0
    · refine Or.inl ⟨decide_eq_false (not_not_intro (by rw [a1, h0]; decide)), ?_, tP_le hz⟩
      show (if Q 3 = 0 then nI z else -9) = _
      rw [if_pos (by rw [a2, h0]; rfl), end_place hz he hL]
    · refine Or.inr ⟨decide_eq_true (by rw [a1]; exact rf_leMN rfl (nl 0) (by omega) (by omega) (by omega)), ?_, o, hW⟩
      show (if Q 3 = 0 then nI z else -9) = _
      rw [if_neg (by rw [a2]; exact rf_eqMN rfl (nl 0) (by omega) (by omega) h0)]
  intro f
  induction f with
  | zero =>
    intro g D Q o p p' hW hp hz hf hg
    obtain ⟨g, rfl⟩ : ∃ g', g = g' + 1 := ⟨g - 1, by omega⟩
    have he : tK L z p.1 = 257 := end_of (by omega)
    have he' : mK L z p'.1 = 2 := by rw [← hp]; exact (TKR_end (tkr hL)).mp he
    simp only [qFrame, mqFrame]
    rw [if_pos he']
    exact fin hW hp hz he
  | succ f ih =>
    intro g D Q o p p' hW hp hz hf hg
    obtain ⟨g, rfl⟩ : ∃ g', g = g' + 1 := ⟨g - 1, by omega⟩
    simp only [qFrame, mqFrame]
    by_cases he : tK L z p.1 = 257
    · have he' : mK L z p'.1 = 2 := by rw [← hp]; exact (TKR_end (tkr hL)).mp he
      rw [if_pos he, if_pos he']
      exact fin hW hp hz he
    · have he' : ¬ mK L z p'.1 = 2 := fun h => he ((TKR_end (tkr hL)).mpr (by rw [hp]; exact h))
      rw [if_neg he, if_neg he']
      have hz' : p'.1 ≤ z := by rw [← hp]; exact hz
      have hQ : okQo Q := okQo_of hW.2.2.2.1 hW.2.2.2.2.1
      rcases order_eq hL hW hp with ⟨a, b, c⟩ | ⟨a, b, c, e⟩
      · rw [if_neg (by rw [a]; exact Bool.false_ne_true), if_neg (by rw [b]; exact Bool.false_ne_true)]
        have hle := (qOrder_ok (L := L) hz (okO_of hW.2.2.1 hW.2.2.2.2.1).1).2
        refine Or.inl ⟨rfl, ?_, tP_le hle⟩
        show nI (tP L z _) = nI (tP L z _)
        rw [c]
      · rw [if_pos a, if_pos b]
        obtain ⟨_, k1, k2⟩ := mqOrd_ok hz' hQ b
        have k3 := tX_gt (mK_lt he')
        have k4 : (mS L z p').1 = tX L z p'.1 := rfl
        have k5 := mS_ge (L := L) (z := z) (p := (mqOrd L z Q p').2.2)
        have k6 := mS_le (L := L) (z := z) k1
        exact ih g c e (by rw [e]; exact k6) (by rw [e]; omega) (by rw [e]; omega)
theorem mFr_at {Q nw : Nat → Int32} : ∀ {n k : Nat}, mFr Q nw n k = if 71 ≤ k ∧ k < 71 + n then Q k else nw k
  | 0, k => by rw [if_neg (by omega)]; rfl
  | n + 1, k => by
    show upd (mFr Q nw n) (71 + n) (Q (71 + n)) k = _
    by_cases h : k = 71 + n
    · subst h; rw [pk_us, if_pos (by omega)]
    · rw [pk_un h, mFr_at (n := n)]
      by_cases h2 : 71 ≤ k ∧ k < 71 + n
      · rw [if_pos h2, if_pos (by omega)]
      · rw [if_neg h2, if_neg (by omega)]
theorem frame_rq {X0 X1 D : S2} {Q nw : Nat → Int32} {n o o' m v : Nat} (h : RQ X0 nw n o m v) (hF : FI (rDrop (rCopy X1 X0)) D Q o') : RQ D (mFrm Q nw) n o' m v := by
  obtain ⟨a1, a2, a3, a4, a5, a6⟩ := hF
  have hc := RQ_copy (R := X1) h
  generalize rCopy X1 X0 = Y at a1 a2 hc
  obtain ⟨h1, h2, h3, h4, h5⟩ := hc
  have hm := h1.m7
  obtain ⟨⟨b1, b2, b3⟩, _, c, ⟨d1, d2, d3, d4, d5, d6⟩, f1, f2⟩ := h1
  have e0 : D 0 = Y 0 := a1 0 (by decide) (by decide)
  have e1 : D 1 = Y 1 := a1 1 (by decide) (by decide)
  have e4 : D 4 = rFill (Y 4) (-9) 0 2 := a1 4 (by decide) (by decide)
  have e50 : D 5 0 = Y 5 0 := a2 0 (by decide)
  have e52 : D 5 2 = Y 5 2 := a2 2 (by decide)
  have e53 : D 5 3 = Y 5 3 := a2 3 (by decide)
  have e54 : D 5 4 = Y 5 4 := a2 4 (by decide)
  have e55 : D 5 5 = 0 := a2 5 (by decide)
  have e56 : D 5 6 = Y 5 6 := a2 6 (by decide)
  have qk : ∀ k, k < 71 → k ≠ 3 → k ≠ 4 → k ≠ 5 → k ≠ 6 → mFrm Q nw k = nw k := fun k x y z u w => by
    unfold mFrm; rw [pk_un w, pk_un u, pk_un z, pk_un y, mFr_at, if_neg (by omega)]
  have q71 : ∀ k, 71 ≤ k → k < 99 → mFrm Q nw k = Q k := fun k x y => by
    unfold mFrm; rw [pk_un (by omega), pk_un (by omega), pk_un (by omega), pk_un (by omega), mFr_at, if_pos (by omega)]
  have q3 : mFrm Q nw 3 = Q 3 := by unfold mFrm; rw [pk_un (by decide), pk_un (by decide), pk_un (by decide), pk_us]
  have q4 : mFrm Q nw 4 = 0 := by unfold mFrm; rw [pk_un (by decide), pk_un (by decide), pk_us]
  have q5 : mFrm Q nw 5 = -9 := by unfold mFrm; rw [pk_un (by decide), pk_us]
  have q6 : mFrm Q nw 6 = -9 := by unfold mFrm; rw [pk_us]
  refine ⟨⟨⟨by rw [e50]; exact b1, by rw [qk 0 (by decide) (by decide) (by decide) (by decide) (by decide)]; exact b2, b3⟩, ⟨a3, by rw [q3]; exact a4, a5⟩, by rw [e54, qk 1 (by decide) (by decide) (by decide) (by decide) (by decide)]; exact c, ⟨by rw [e52, qk 2 (by decide) (by decide) (by decide) (by decide) (by decide)]; exact d1, by rw [e55, q4], by rw [e53, qk 7 (by decide) (by decide) (by decide) (by decide) (by decide)]; exact d3, by rw [e56, qk 8 (by decide) (by decide) (by decide) (by decide) (by decide)]; exact d4, ?_, ?_⟩, Or.inl e55, by rw [e56]; exact f2⟩, ?_, ?_, ?_, ?_⟩
  · rw [e4, q5]; unfold rFill; rw [fl_fill]; rfl
  · rw [e4, q6]; unfold rFill; rw [fl_fill]; rfl
  · rw [e1]
    exact ⟨⟨by rw [qk 16 (by decide) (by decide) (by decide) (by decide) (by decide)]; exact h2.1.1, h2.1.2⟩, fun k hk => by rw [qk (9 + k) (by omega) (by omega) (by omega) (by omega) (by omega)]; exact h2.2 k hk⟩
  · rw [e0]
    exact fun d hd => ⟨fun c hc => by rw [qk _ (by omega) (by omega) (by omega) (by omega) (by omega)]; exact (h3 d hd).1 c hc, (h3 d hd).2⟩
  · exact fun i hi => ⟨fun c hc => by rw [q71 _ (by omega) (by omega)]; exact (a6 i hi).1 c hc, (a6 i hi).2⟩
  · exact fun h => absurd (e55.symm.trans h) (by decide)
theorem FI_0 (D : S2) (f : Nat → Int32) : FI (rDrop D) (rDrop D) (mBeg f) 0 := ⟨fun _ _ _ => rfl, fun _ _ => rfl, rfl, mBeg_3 f, by decide, fun i hi => absurd hi (Nat.not_lt_zero i)⟩
