/-! The pure equivalence: tokens -/
def okL (L : Nat → Int32) (z : Nat) : Prop := ∀ j, j < z → ∃ y : Nat, y ≤ 255 ∧ L j = nI y
theorem tFg_nat {c : Int32} (h : tFg c) : ∃ y : Nat, 48 ≤ y ∧ y ≤ 57 ∧ c = nI y := by
  obtain ⟨h1, h2⟩ := h
  have h0 : ¬ c < 0 := fun h => h1 (Int32.lt_trans h (by decide))
  obtain ⟨j, hj, rfl⟩ := nI_of h0
  have a : ¬ j < 48 := rf_ltN rfl (nl 48) hj (by decide) h1
  have b : ¬ 57 < j := rf_ltN (nl 57) rfl (by decide) hj h2
  exact ⟨j, by omega, by omega, rfl⟩
theorem lin10 {x y : Nat} (hy : 48 ≤ y) : 10 * nI x + nI y - 48 = nI (10 * x + y - 48) :=
  rf_sub (rf_add (rf_mul (nl 10) rfl) rfl) (nl 48) (by omega)
theorem tmN {L : Nat → Int32} {p : Nat} : ∀ n, (∀ i, i < n → tFg (L (p + i))) → ∃ a : Nat, (tN L p n = nI a ∧ mN L p n = nI a ∧ a ≤ 255) ∨ (tN L p n = nI 256 ∧ mN L p n = nI a ∧ 255 < a ∧ a ≤ 2559)
  | 0, _ => ⟨0, Or.inl ⟨rfl, rfl, by decide⟩⟩
  | n + 1, h => by
    obtain ⟨y, y1, y2, ey⟩ := tFg_nat (h n (by omega))
    have et : tN L p (n + 1) = if 256 < 10 * tN L p n + L (p + n) - 48 then 256 else 10 * tN L p n + L (p + n) - 48 := rfl
    have em : mN L p (n + 1) = if mN L p n ≤ 255 then 10 * mN L p n + L (p + n) - 48 else mN L p n := rfl
    obtain ⟨a, ⟨e1, e2, ha⟩ | ⟨e1, e2, ha, hb⟩⟩ := tmN n (fun i hi => h i (by omega))
    · rw [e1, ey, lin10 y1] at et
      rw [e2, if_pos (rf_leMP rfl (nl 255) (by omega) (by omega) ha), ey, lin10 y1] at em
      rcases Nat.lt_or_ge 255 (10 * a + y - 48) with c | c
      · refine ⟨10 * a + y - 48, Or.inr ⟨?_, em, c, by omega⟩⟩
        rw [et]
        rcases Nat.lt_or_ge 256 (10 * a + y - 48) with c2 | c2
        · rw [if_pos (rf_ltMP (nl 256) rfl (by omega) (by omega) c2)]; rfl
        · rw [if_neg (rf_ltMN (nl 256) rfl (by omega) (by omega) (by omega)), show 10 * a + y - 48 = 256 by omega]
      · refine ⟨10 * a + y - 48, Or.inl ⟨?_, em, c⟩⟩
        rw [et, if_neg (rf_ltMN (nl 256) rfl (by omega) (by omega) (by omega))]
    · rw [e1, ey, lin10 y1, if_pos (rf_ltMP (nl 256) rfl (by omega) (by omega) (by omega))] at et
      rw [e2, if_neg (rf_leMN rfl (nl 255) (by omega) (by omega) (by omega))] at em
      exact ⟨a, Or.inr ⟨et, em, ha, hb⟩⟩
/-- kinds of tokens on both sides -/
def TKR (t m : Int32) : Prop := (t = 257 ∧ m = 2) ∨ (t = 256 ∧ m = 1) ∨ (t = 258 ∧ m = 3) ∨ (t = m ∧ (mLet m ∨ m = 59)) ∨ (m = 3 ∧ ¬ mLet t ∧ ¬ t = 59 ∧ ¬ t = 256 ∧ ¬ t = 257)
theorem TKR_eq {t m v : Int32} (h : TKR t m) (hv : mLet v ∨ v = 59) : t = v ↔ m = v := by
  have n1 : ¬ 257 = v ∧ ¬ 2 = v ∧ ¬ 256 = v ∧ ¬ 1 = v ∧ ¬ 258 = v ∧ ¬ 3 = v := by
    rcases hv with (rfl | rfl | rfl | rfl | rfl | rfl | rfl | rfl | rfl) | rfl <;> decide
  obtain ⟨a1, a2, a3, a4, a5, a6⟩ := n1
  rcases h with ⟨rfl, rfl⟩ | ⟨rfl, rfl⟩ | ⟨rfl, rfl⟩ | ⟨rfl, _⟩ | ⟨rfl, b1, b2, b3, b4⟩
  · exact ⟨fun h => absurd h a1, fun h => absurd h a2⟩
  · exact ⟨fun h => absurd h a3, fun h => absurd h a4⟩
  · exact ⟨fun h => absurd h a5, fun h => absurd h a6⟩
  · exact Iff.rfl
  · refine ⟨fun h => ?_, fun h => absurd h a6⟩
    subst h
    rcases hv with hv | hv
    · exact absurd hv b1
    · exact absurd hv b2
theorem TKR_num {t m : Int32} (h : TKR t m) : t = 256 ↔ m = 1 := by
  rcases h with ⟨rfl, rfl⟩ | ⟨rfl, rfl⟩ | ⟨rfl, rfl⟩ | ⟨rfl, h⟩ | ⟨rfl, b1, b2, b3, b4⟩
  · decide
  · decide
  · decide
  · rcases h with (rfl | rfl | rfl | rfl | rfl | rfl | rfl | rfl | rfl) | rfl <;> decide
  · exact ⟨fun h => absurd h b3, fun h => absurd h (by decide)⟩
theorem TKR_end {t m : Int32} (h : TKR t m) : t = 257 ↔ m = 2 := by
  rcases h with ⟨rfl, rfl⟩ | ⟨rfl, rfl⟩ | ⟨rfl, rfl⟩ | ⟨rfl, h⟩ | ⟨rfl, b1, b2, b3, b4⟩
  · decide
  · decide
  · decide
  · rcases h with (rfl | rfl | rfl | rfl | rfl | rfl | rfl | rfl | rfl) | rfl <;> decide
  · exact ⟨fun h => absurd h b4, fun h => absurd h (by decide)⟩
theorem tC_all {L : Nat → Int32} {z p : Nat} : ∀ i, i < tC L z p → tFg (L (p + i)) := fun i hi => Decidable.of_not_not (of_decide_eq_false (ff_no (fun j => decide (¬ tFg (L (p + j)))) (z - p) i hi))
theorem tkr {L : Nat → Int32} {z x : Nat} (hL : okL L z) : TKR (tK L z x) (mK L z x) := by
  unfold tK mK
  by_cases h : tP L z x < z
  · rw [if_pos h, if_pos h]
    by_cases f : tFg (L (tP L z x))
    · rw [if_pos f, if_pos f]
      obtain ⟨a, ha⟩ := tmN (tC L z (tP L z x)) (tC_all (L := L) (z := z) (p := tP L z x))
      unfold tKd mKd
      by_cases c : L (tP L z x) = 48 ∧ ¬ tC L z (tP L z x) ≤ 1
      · rw [if_pos c, if_pos (Or.inr ⟨c.1, by have := c.2; omega⟩)]
        exact Or.inr (Or.inr (Or.inl ⟨rfl, rfl⟩))
      · rw [if_neg c]
        rcases ha with ⟨e1, e2, h3⟩ | ⟨e1, e2, h3, h4⟩
        · rw [e1, e2, if_pos (rf_leMP rfl (nl 255) (by omega) (by omega) h3), if_neg (fun h => by
            rcases h with h | h
            · exact rf_ltMN (nl 255) (rfl : nI a = nI a) (by omega) (by omega) (by omega) h
            · exact c ⟨h.1, by have := h.2; omega⟩)]
          exact Or.inr (Or.inl ⟨rfl, rfl⟩)
        · rw [e1, e2, if_neg (by decide), if_pos (Or.inl (rf_ltMP (nl 255) rfl (by omega) (by omega) h3))]
          exact Or.inr (Or.inr (Or.inl ⟨rfl, rfl⟩))
    · rw [if_neg f, if_neg f]
      obtain ⟨y, hy, e⟩ := hL _ h
      by_cases c : mLet (L (tP L z x)) ∨ L (tP L z x) = 59
      · rw [if_pos c]; exact Or.inr (Or.inr (Or.inr (Or.inl ⟨rfl, c⟩)))
      · rw [if_neg c]
        refine Or.inr (Or.inr (Or.inr (Or.inr ⟨rfl, fun h => c (Or.inl h), fun h => c (Or.inr h), ?_, ?_⟩)))
        · rw [e]; exact rf_eqMN rfl (nl 256) (by omega) (by omega) (by omega)
        · rw [e]; exact rf_eqMN rfl (nl 257) (by omega) (by omega) (by omega)
  · rw [if_neg h, if_neg h]; exact Or.inl ⟨rfl, rfl⟩
theorem tkv {L : Nat → Int32} {z x : Nat} (hL : okL L z) {u u' : Int32} (h : tK L z x = 256) : tV L z x u = mV L z x u' ∧ ∃ a : Nat, a ≤ 255 ∧ tV L z x u = nI a := by
  unfold tK at h
  unfold tV mV
  by_cases c : tP L z x < z
  · rw [if_pos c] at h
    rw [if_pos c, if_pos c]
    by_cases f : tFg (L (tP L z x))
    · rw [if_pos f] at h
      rw [if_pos f, if_pos f]
      obtain ⟨a, ha⟩ := tmN (tC L z (tP L z x)) (tC_all (L := L) (z := z) (p := tP L z x))
      rcases ha with ⟨e1, e2, h3⟩ | ⟨e1, e2, h3, h4⟩
      · exact ⟨by rw [e1, e2], a, h3, e1⟩
      · exfalso
        unfold tKd at h
        rw [e1] at h
        split at h
        · exact absurd h (by decide)
        · rw [if_neg (by decide)] at h; exact absurd h (by decide)
    · rw [if_neg f] at h
      obtain ⟨y, hy, e⟩ := hL _ c
      rw [e] at h
      exact absurd h (rf_eqMN rfl (nl 256) (by omega) (by omega) (by omega))
  · rw [if_neg c] at h; exact absurd h (by decide)
theorem tmO {L : Nat → Int32} {z : Nat} (hL : okL L z) {p p' : Nat × Int32} (hp : p.1 = p'.1) {a b : Int32} : tO L z p a b ↔ mO L z p' a b := by
  have hk := tkr hL (x := p.1)
  have e1 : mK L z p'.1 = mK L z p.1 := by rw [hp]
  constructor
  · intro h
    have h2 := (tkv hL (u := p.2) (u' := p'.2) h.1).1
    have hm : mK L z p'.1 = 1 := by rw [e1]; exact (TKR_num hk).mp h.1
    have e : mV L z p'.1 p'.2 = tV L z p.1 p.2 := by rw [h2, hp]
    exact ⟨hm, by rw [e]; exact h.2.1, by rw [e]; exact Int32.not_lt.mpr h.2.2⟩
  · intro h
    have hm : tK L z p.1 = 256 := (TKR_num hk).mpr (by rw [← e1]; exact h.1)
    have h2 := (tkv hL (u := p.2) (u' := p'.2) hm).1
    have e : mV L z p'.1 p'.2 = tV L z p.1 p.2 := by rw [h2, hp]
    have h3 := h.2
    rw [e] at h3
    exact ⟨hm, h3.1, Int32.not_lt.mp h3.2⟩
theorem tmU {L : Nat → Int32} {z : Nat} (hL : okL L z) {p p' : Nat × Int32} (hp : p.1 = p'.1) {a b : Int32} (h : tO L z p a b) : tU L z p = mU L z p' := by
  have h2 := (tkv hL (u := p.2) (u' := p'.2) h.1).1
  show tV L z p.1 p.2 = mV L z p'.1 p'.2
  rw [h2, hp]
theorem tmS {L : Nat → Int32} {z : Nat} {p p' : Nat × Int32} (hp : p.1 = p'.1) : (tS L z p).1 = (mS L z p').1 := by
  show tX L z p.1 = tX L z p'.1
  rw [hp]
theorem tmK {L : Nat → Int32} {z : Nat} (hL : okL L z) {p p' : Nat × Int32} (hp : p.1 = p'.1) {v : Int32} (hv : mLet v ∨ v = 59) : tK L z p.1 = v ↔ mK L z p'.1 = v := by
  rw [← hp]; exact TKR_eq (tkr hL) hv
