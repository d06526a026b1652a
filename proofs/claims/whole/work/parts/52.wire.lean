/-! The pure equivalence: wires read -/
def IE (a : Bool × S2 × (Nat × Int32)) (b : Bool × (Nat → Int32) × (Nat × Int32)) (L : Nat → Int32) (z : Nat) (P : S2 → (Nat → Int32) → Prop) : Prop :=
  (a.1 = false ∧ b.1 = false ∧ a.2.2.1 = b.2.2.1) ∨ (a.1 = true ∧ b.1 = true ∧ P a.2.1 b.2.1 ∧ a.2.2.1 = (mS L z b.2.2).1)
theorem b01_1 {x : Int32} (h : b01 x) (h0 : ¬ x = 0) : x = 1 := h.resolve_left h0
theorem drive_eq {L : Nat → Int32} {z : Nat} (hL : okL L z) {D : S2} {Q : Nat → Int32} {n m : Nat} (hW : WI D Q n m) {p p' : Nat × Int32} (hp : p.1 = p'.1) : IE (qDrive L z D p) (mqDrive L z Q p') L z (fun D Q => ∃ n m, WI D Q n m) := by
  obtain ⟨⟨a1, a2, a3⟩, _, c, _⟩ := hW.1.1
  have s1 := tmS (L := L) (z := z) hp
  have s2 := tmS (L := L) (z := z) s1
  have s3 := tmS (L := L) (z := z) s2
  have s4 := tmS (L := L) (z := z) s3
  unfold qDrive mqDrive
  by_cases h6 : n = 6
  · rw [if_pos (fun h => h.2 (by rw [a1, h6]; decide)), if_pos (show Q 0 = 6 by rw [a2, h6]; rfl)]
    exact Or.inl ⟨rfl, rfl, hp⟩
  · have q6 : ¬ Q 0 = 6 := by rw [a2]; exact rf_eqMN rfl (nl 6) (by omega) (by omega) h6
    rcases c with ⟨c1, c2, em⟩ | ⟨c1, c2, em⟩
    · rw [if_neg (not_not_intro ⟨c1, by rw [a1]; exact rf_geMN rfl (nl 6) (by omega) (by omega) (by omega)⟩), if_neg q6, if_neg (show ¬ Q 1 = 1 by rw [c2]; decide)]
      by_cases o1 : tO L z (tS L z p) 1 9
      · have o1' := (tmO hL s1).mp o1
        rw [if_neg (not_not_intro o1), if_neg (not_not_intro o1')]
        by_cases o2 : tO L z (tS L z (tS L z p)) 0 15
        · have o2' := (tmO hL s2).mp o2
          rw [if_neg (not_not_intro o2), if_neg (not_not_intro o2')]
          by_cases h59 : tK L z (tS L z (tS L z (tS L z p))).1 = 59
          · have h59' := (tmK hL s3 (Or.inr rfl)).mp h59
            rw [if_neg (not_not_intro h59)]
            refine Or.inr ⟨rfl, decide_eq_true h59', ⟨n + 1, m + 1, ?_⟩, s4⟩
            show WI (rAddDrive D (dn D) _ _) (mqD2 L z Q (mS L z p') (mS L z (mS L z p'))) _ _
            unfold mqD2 mqD1
            rw [dn_of a1 a3, qn_of a2 a3, tmU hL s1 o1, tmU hL s2 o2]
            exact WI_drive hW (by omega) c1
          · rw [if_pos h59]
            exact Or.inl ⟨rfl, decide_eq_false (fun h => h59 ((tmK hL s3 (Or.inr rfl)).mpr h)), s3⟩
        · rw [if_pos o2, if_pos (show ¬ mO L z (mS L z (mS L z p')) 0 15 from fun h => o2 ((tmO hL s2).mpr h))]
          exact Or.inl ⟨rfl, rfl, s2⟩
      · rw [if_pos o1, if_pos (show ¬ mO L z (mS L z p') 1 9 from fun h => o1 ((tmO hL s1).mpr h))]
        exact Or.inl ⟨rfl, rfl, s1⟩
    · rw [if_pos (fun h => by rw [c1] at h; exact absurd h.1 (by decide)), if_neg q6, if_pos c2]
      exact Or.inl ⟨rfl, rfl, hp⟩
theorem close_eq {L : Nat → Int32} {z : Nat} (hL : okL L z) {D : S2} {Q : Nat → Int32} {n m : Nat} (hW : WI D Q n m) {p p' : Nat × Int32} (hp : p.1 = p'.1) : IE (qClose L z D p) (mqLast L z Q p') L z (fun D Q => ∃ n m, WI D Q n m) := by
  obtain ⟨⟨a1, a2, a3⟩, _, c, _⟩ := hW.1.1
  have s1 := tmS (L := L) (z := z) hp
  have s2 := tmS (L := L) (z := z) s1
  have s3 := tmS (L := L) (z := z) s2
  unfold qClose mqLast
  by_cases h6 : n = 0
  · rw [if_pos (fun h => h.2 (by rw [a1, h6]; decide)), if_pos (show Q 0 = 0 by rw [a2, h6]; rfl)]
    exact Or.inl ⟨rfl, rfl, hp⟩
  · have q6 : ¬ Q 0 = 0 := by rw [a2]; exact rf_eqMN rfl (nl 0) (by omega) (by omega) h6
    rcases c with ⟨c1, c2, em⟩ | ⟨c1, c2, em⟩
    · rw [if_neg (not_not_intro ⟨c1, by rw [a1]; exact rf_leMN rfl (nl 0) (by omega) (by omega) (by omega)⟩), if_neg q6, if_neg (show ¬ Q 1 = 1 by rw [c2]; decide)]
      by_cases o1 : tO L z (tS L z p) 1 9
      · have o1' := (tmO hL s1).mp o1
        rw [if_neg (not_not_intro o1), if_neg (not_not_intro o1')]
        by_cases h59 : tK L z (tS L z (tS L z p)).1 = 59
        · have h59' := (tmK hL s2 (Or.inr rfl)).mp h59
          rw [if_neg (not_not_intro h59)]
          refine Or.inr ⟨rfl, decide_eq_true h59', ⟨n, m + 1, ?_⟩, s3⟩
          show WI (rCloseBy D (dn D) _) (upd (upd Q (9 + qn Q) (mU L z (mS L z p'))) 1 1) _ _
          rw [dn_of a1 a3, qn_of a2 a3, tmU hL s1 o1]
          exact WI_close hW c1
        · rw [if_pos h59]
          exact Or.inl ⟨rfl, decide_eq_false (fun h => h59 ((tmK hL s2 (Or.inr rfl)).mpr h)), s2⟩
      · rw [if_pos o1, if_pos (show ¬ mO L z (mS L z p') 1 9 from fun h => o1 ((tmO hL s1).mpr h))]
        exact Or.inl ⟨rfl, rfl, s1⟩
    · rw [if_pos (fun h => by rw [c1] at h; exact absurd h.1 (by decide)), if_neg q6, if_pos c2]
      exact Or.inl ⟨rfl, rfl, hp⟩
/-- one item, on both sides -/
def I4 (a : Bool × S2 × Int32 × (Nat × Int32)) (b : Bool × (Nat → Int32) × Int32 × (Nat × Int32)) (L : Nat → Int32) (z : Nat) : Prop :=
  (a.1 = false ∧ b.1 = false ∧ a.2.2.2.1 = b.2.2.2.1) ∨ (a.1 = true ∧ b.1 = true ∧ (∃ n m, WI a.2.1 b.2.1 n m) ∧ a.2.2.1 = b.2.2.1 ∧ a.2.2.2.1 = (mS L z b.2.2.2).1)
theorem limit_eq {L : Nat → Int32} {z : Nat} (hL : okL L z) {D : S2} {Q : Nat → Int32} {n m : Nat} (hW : WI D Q n m) {lt : Int32} {p p' : Nat × Int32} (hp : p.1 = p'.1) : I4 (qLimit L z D lt p) (mqLimit L z Q lt p') L z := by
  have s1 := tmS (L := L) (z := z) hp
  have s2 := tmS (L := L) (z := z) s1
  have s3 := tmS (L := L) (z := z) s2
  unfold qLimit mqLimit
  by_cases h0 : lt = 0
  · rw [if_neg (not_not_intro h0), if_neg (not_not_intro h0)]
    by_cases o1 : tO L z (tS L z p) 1 9
    · have o1' := (tmO hL s1).mp o1
      rw [if_neg (not_not_intro o1), if_neg (not_not_intro o1')]
      by_cases h59 : tK L z (tS L z (tS L z p)).1 = 59
      · have h59' := (tmK hL s2 (Or.inr rfl)).mp h59
        rw [if_neg (not_not_intro h59)]
        refine Or.inr ⟨rfl, decide_eq_true h59', ⟨n, m, ?_⟩, rfl, s3⟩
        show WI (u2 D 5 2 _) (upd Q 2 (mU L z (mS L z p'))) _ _
        rw [tmU hL s1 o1]
        exact WI_limit hW
      · rw [if_pos h59]
        exact Or.inl ⟨rfl, decide_eq_false (fun h => h59 ((tmK hL s2 (Or.inr rfl)).mpr h)), s2⟩
    · rw [if_pos o1, if_pos (show ¬ mO L z (mS L z p') 1 9 from fun h => o1 ((tmO hL s1).mpr h))]
      exact Or.inl ⟨rfl, rfl, s1⟩
  · rw [if_pos h0, if_pos h0]
    exact Or.inl ⟨rfl, rfl, hp⟩
theorem item_eq {L : Nat → Int32} {z : Nat} (hL : okL L z) {D : S2} {Q : Nat → Int32} {n m : Nat} (hW : WI D Q n m) {lt : Int32} {p p' : Nat × Int32} (hp : p.1 = p'.1) : I4 (qItem L z D lt p) (mqItem L z Q lt p') L z := by
  unfold qItem mqItem
  by_cases h1 : tK L z p.1 = 100
  · rw [if_pos h1, if_pos ((tmK hL hp (Or.inl (Or.inl rfl))).mp h1)]
    rcases drive_eq hL hW hp with ⟨a, b, c⟩ | ⟨a, b, c, d⟩
    · exact Or.inl ⟨a, b, c⟩
    · exact Or.inr ⟨a, b, c, rfl, d⟩
  · rw [if_neg h1, if_neg (fun h => h1 ((tmK hL hp (Or.inl (Or.inl rfl))).mpr h))]
    by_cases h2 : tK L z p.1 = 122
    · rw [if_pos h2, if_pos ((tmK hL hp (Or.inl (Or.inr (Or.inl rfl)))).mp h2)]
      rcases close_eq hL hW hp with ⟨a, b, c⟩ | ⟨a, b, c, d⟩
      · exact Or.inl ⟨a, b, c⟩
      · exact Or.inr ⟨a, b, c, rfl, d⟩
    · rw [if_neg h2, if_neg (fun h => h2 ((tmK hL hp (Or.inl (Or.inr (Or.inl rfl)))).mpr h))]
      by_cases h3 : tK L z p.1 = 109
      · rw [if_pos h3, if_pos ((tmK hL hp (Or.inl (Or.inr (Or.inr (Or.inl rfl))))).mp h3)]
        exact limit_eq hL hW hp
      · rw [if_neg h3, if_neg (fun h => h3 ((tmK hL hp (Or.inl (Or.inr (Or.inr (Or.inl rfl))))).mpr h))]
        exact Or.inl ⟨rfl, rfl, hp⟩
theorem end_place {L : Nat → Int32} {z x : Nat} (hx : x ≤ z) (h : tK L z x = 257) (hL : okL L z) : tP L z x = z := by
  have := (TKR_end (tkr hL)).mp h
  rcases Nat.lt_or_ge (tP L z x) z with c | c
  · exfalso
    unfold tK at h
    rw [if_pos c] at h
    by_cases f : tFg (L (tP L z x))
    · rw [if_pos f] at h
      unfold tKd at h
      split at h
      · exact absurd h (by decide)
      · split at h <;> exact absurd h (by decide)
    · rw [if_neg f] at h
      obtain ⟨y, hy, e⟩ := hL _ c
      rw [e] at h
      exact absurd h (rf_eqMN rfl (nl 257) (by omega) (by omega) (by omega))
  · exact Nat.le_antisymm (tP_le hx) c
theorem end_of {L : Nat → Int32} {z x : Nat} (hx : z ≤ x) : tK L z x = 257 := by
  unfold tK
  rw [if_neg (by unfold tP; omega)]
/-- the outcome of a wire: a fault at one place on both sides, or the same ring -/
def WE (a : Bool × S2 × Int32 × (Nat × Int32)) (b : Int32 × (Nat → Int32) × Int32 × (Nat × Int32)) (L : Nat → Int32) (z : Nat) : Prop :=
  (a.1 = false ∧ b.1 = nI (tP L z a.2.2.2.1) ∧ tP L z a.2.2.2.1 ≤ z) ∨ (a.1 = true ∧ b.1 = -9 ∧ ∃ n m, WI a.2.1 b.2.1 n m ∧ 1 ≤ n)
theorem wire_eq {L : Nat → Int32} {z : Nat} (hL : okL L z) : ∀ (f g : Nat) {D : S2} {Q : Nat → Int32} {n m : Nat} {lt : Int32} {p p' : Nat × Int32}, WI D Q n m → p.1 = p'.1 → p.1 ≤ z → z - p.1 ≤ f → z - p.1 < g → WE (qWire L z f D lt p) (mqWire L z g Q lt p') L z := by
  have fin : ∀ {D : S2} {Q : Nat → Int32} {n m : Nat} {lt : Int32} {p p' : Nat × Int32}, WI D Q n m → p.1 = p'.1 → p.1 ≤ z → tK L z p.1 = 257 → WE (decide (¬ D 5 0 ≤ 0), D, lt, p) ((if Q 0 = 0 then nI z else -9), Q, lt, p') L z := by
    intro D Q n m lt p p' hW hp hz he
    obtain ⟨⟨a1, a2, a3⟩, _⟩ := hW.1.1
    by_cases h0 : n = 0
    · refine Or.inl ⟨decide_eq_false (not_not_intro (by rw [a1, h0]; decide)), ?_, tP_le hz⟩
      show (if Q 0 = 0 then nI z else -9) = _
      rw [if_pos (by rw [a2, h0]; rfl), end_place hz he hL]
    · refine Or.inr ⟨decide_eq_true (by rw [a1]; exact rf_leMN rfl (nl 0) (by omega) (by omega) (by omega)), ?_, n, m, hW, by omega⟩
      show (if Q 0 = 0 then nI z else -9) = _
      rw [if_neg (by rw [a2]; exact rf_eqMN rfl (nl 0) (by omega) (by omega) h0)]
  intro f
  induction f with
  | zero =>
    intro g D Q n m lt p p' hW hp hz hf hg
    obtain ⟨g, rfl⟩ : ∃ g', g = g' + 1 := ⟨g - 1, by omega⟩
    have he : tK L z p.1 = 257 := end_of (by omega)
    have he' : mK L z p'.1 = 2 := by rw [← hp]; exact (TKR_end (tkr hL)).mp he
    simp only [qWire, mqWire]
    rw [if_pos he']
    exact fin hW hp hz he
  | succ f ih =>
    intro g D Q n m lt p p' hW hp hz hf hg
    obtain ⟨g, rfl⟩ : ∃ g', g = g' + 1 := ⟨g - 1, by omega⟩
    simp only [qWire, mqWire]
    by_cases he : tK L z p.1 = 257
    · have he' : mK L z p'.1 = 2 := by rw [← hp]; exact (TKR_end (tkr hL)).mp he
      rw [if_pos he, if_pos he']
      exact fin hW hp hz he
    · have he' : ¬ mK L z p'.1 = 2 := fun h => he ((TKR_end (tkr hL)).mpr (by rw [hp]; exact h))
      rw [if_neg he, if_neg he']
      have hz' : p'.1 ≤ z := by rw [← hp]; exact hz
      have hQ : okQ Q := okQ_of hW.1.1.1.2.1 hW.1.1.1.2.2
      rcases item_eq (lt := lt) hL hW hp with ⟨a, b, c⟩ | ⟨a, b, ⟨n', m', c⟩, d, e⟩
      · rw [if_neg (by rw [a]; exact Bool.false_ne_true), if_neg (by rw [b]; exact Bool.false_ne_true)]
        have hle := (qItem_ok (L := L) (lt := lt) hz (okD_of hW.1.1.1.1 hW.1.1.1.2.2).1).2
        refine Or.inl ⟨rfl, ?_, tP_le hle⟩
        show nI (tP L z _) = nI (tP L z _)
        rw [c]
      · rw [if_pos a, if_pos b]
        obtain ⟨_, k1, k2⟩ := mqItem_ok hz' hQ b
        have k3 := tX_gt (mK_lt he')
        have k4 : (mS L z p').1 = tX L z p'.1 := rfl
        have k5 := mS_ge (L := L) (z := z) (p := (mqItem L z Q lt p').2.2.2)
        have k6 := mS_le (L := L) (z := z) k1
        rw [d]
        exact ih g c e (by rw [e]; exact k6) (by rw [e]; omega) (by rw [e]; omega)
