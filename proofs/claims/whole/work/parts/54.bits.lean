/-! The pure equivalence: folds, bits -/
theorem fl_rel {σ τ : Type} {f : Nat → σ → σ} {g : Nat → τ → τ} (P : σ → τ → Prop) : ∀ (n : Nat) {s : σ} {t : τ}, P s t → (∀ i s t, i < n → P s t → P (f i s) (g i t)) → P (fl f n s) (fl g n t)
  | 0, _, _, h, _ => h
  | n + 1, _, _, h, k => k n _ _ (Nat.lt_succ_self n) (fl_rel P n h (fun i s t hi => k i s t (by omega)))
theorem fl_cong {σ : Type} {f g : Nat → σ → σ} {s : σ} (n : Nat) (h : ∀ i, i < n → ∀ s, f i s = g i s) : fl f n s = fl g n s :=
  fl_rel (fun a b => a = b) n rfl (fun i s t hi e => by rw [e]; exact h i hi t)
theorem ff_cong {p q : Nat → Bool} : ∀ n, (∀ k, k < n → p k = q k) → ff p n = ff q n
  | 0, _ => rfl
  | n + 1, h => by
    simp only [ff]
    rw [ff_cong n (fun k hk => h k (by omega)), h n (by omega)]
theorem bw_has : ∀ v, v < 128 → ∀ k, k < 8 → (hasB (nI v) k ↔ v.testBit k = true) := by decide +kernel
theorem bw_or : ∀ v, v < 128 → ∀ q, q < 7 → (nI v ||| ((1 : Int32) <<< (nI q &&& 31)) = nI (v ||| 2 ^ q) ∧ (v ||| 2 ^ q) < 128) := by decide +kernel
theorem bw_orb : ∀ v, v < 128 → ∀ q, q < 7 → ∀ k, k < 8 → (v ||| 2 ^ q).testBit k = (v.testBit k || decide (k = q)) := by decide +kernel
theorem bw_orm : ∀ m, m < 8 → ∀ v, v < 2 ^ m → ∀ q, q < m → (v ||| 2 ^ q) < 2 ^ m := by decide +kernel
theorem bw_sub : ∀ v, v < 128 → ∀ q, q < 7 → v.testBit q = true → nI v - ((1 : Int32) <<< (nI q &&& 31)) = nI (v - 2 ^ q) := by decide +kernel
theorem bw_subb : ∀ v, v < 128 → ∀ q, q < 7 → v.testBit q = true → ∀ k, k < 8 → (v - 2 ^ q).testBit k = (v.testBit k && !decide (k = q)) := by decide +kernel
def bcn (v : Nat) (n : Nat) : Nat := fl (fun k a => if v.testBit k = true then a + 1 else a) n 0
theorem bw_ones : ∀ m, m < 8 → ∀ v, v < 2 ^ m → mOnes (nI v) 8 = nI (bcn v m) := by decide +kernel
theorem bw_zero : ∀ m, m < 8 → ∀ v, v < 2 ^ m → (nI (bcn v m) = 0 ↔ v = 0) := by decide +kernel
def bS (v n : Nat) : Nat := if ff (fun j => v.testBit (n - j)) (n + 1) < n + 1 then n - ff (fun j => v.testBit (n - j)) (n + 1) else n
theorem bw_B : ∀ n, n < 7 → ∀ v, v < 2 ^ (n + 1) → bS v n = if nI v = 0 then n else if hasB (nI v) n then n else n - 1 - mJ (nI v) n := by decide +kernel
theorem bw_okc : ∀ n, n < 7 → ∀ v, v < 2 ^ (n + 1) → ¬ nI v = 0 → ¬ hasB (nI v) n → mJ (nI v) n < n := by decide +kernel
theorem bw_m {m v : Nat} (h : v < 2 ^ m) (hm : m ≤ 7) : v < 128 := Nat.lt_of_lt_of_le h (Nat.pow_le_pow_right (n := 2) (by decide) hm)
/-- the links, with a word of cuts given apart -/
def qLc (r1 nw : Nat → Int32) (c : Int32) (m v : Nat) : Prop := (c = nI v ∧ v < 2 ^ m) ∧ ∀ k, k < m → nw (9 + k) = r1 (k * 2 + 0) ∧ r1 (k * 2 + 1) = if v.testBit k then 1 else 0
theorem qLc.cut {r1 nw : Nat → Int32} {c : Int32} {m v k : Nat} (h : qLc r1 nw c m v) (hm : m ≤ 7) (hk : k < m) : (r1 (k * 2 + 1) = 1 ↔ hasB c k) ∧ (hasB c k ↔ v.testBit k = true) := by
  have hb := bw_has v (bw_m h.1.2 hm) k (by omega)
  rw [(h.2 k hk).2, h.1.1]
  refine ⟨?_, hb⟩
  rw [hb]
  by_cases t : v.testBit k = true
  · rw [if_pos t]; exact ⟨fun _ => t, fun _ => rfl⟩
  · rw [if_neg t]; exact ⟨fun e => absurd e (by decide), fun e => absurd e t⟩
theorem qLc.rcut {R : S2} {nw : Nat → Int32} {c : Int32} {m v k : Nat} (h : qLc (R 1) nw c m v) (hk : k < m) : rCut R k = v.testBit k := by
  unfold rCut
  rw [(h.2 k hk).2]
  cases v.testBit k
  · exact decide_eq_false (by decide)
  · exact decide_eq_true (by decide)
theorem eA_eq {R : S2} {nw : Nat → Int32} {c : Int32} {m v n : Nat} (h : qLc (R 1) nw c m v) (hn : n ≤ m) (hm : m ≤ 7) : eA R n = mA c n := by
  unfold eA mA
  refine ff_cong n (fun k hk => ?_)
  unfold rCut
  exact decide_eq_decide.mpr (h.cut hm (by omega)).1
def qS3 (r5 nw : Nat → Int32) (n m : Nat) : Prop := (r5 0 = nI n ∧ nw 0 = nI n ∧ n ≤ 6) ∧ ((r5 4 = 0 ∧ nw 1 = 0 ∧ m = n) ∨ (r5 4 = 1 ∧ nw 1 = 1 ∧ m = n + 1))
theorem qSc.s3 {r4 r5 nw : Nat → Int32} {n o m : Nat} (h : qSc r4 r5 nw n o m) : qS3 r5 nw n m := ⟨h.1, h.2.2.1⟩
theorem qS3.m7 {r5 nw : Nat → Int32} {n m : Nat} (h : qS3 r5 nw n m) : n ≤ 6 ∧ m ≤ 7 ∧ n ≤ m := by
  obtain ⟨⟨_, _, a⟩, b⟩ := h
  rcases b with ⟨_, _, e⟩ | ⟨_, _, e⟩ <;> omega
theorem sB_eq {R : S2} {nw : Nat → Int32} {c : Int32} {n m v : Nat} (hs : qS3 (R 5) nw n m) (h : qLc (R 1) nw c m v) : sB R n = mB nw c n ∧ okc nw c n := by
  obtain ⟨⟨_, _, a3⟩, cl⟩ := hs
  rcases cl with ⟨c1, c2, em⟩ | ⟨c1, c2, em⟩
  · refine ⟨?_, fun h0 => absurd c2 h0⟩
    unfold sB mB
    rw [if_pos c1, if_pos c2]
  · subst em
    have hv := h.1.2
    have ec := h.1.1
    have hj : sJ R n = ff (fun j => v.testBit (n - j)) (n + 1) := ff_cong (n + 1) (fun j hj => h.rcut (k := n - j) (by omega))
    refine ⟨?_, fun _ h1 h2 => ?_⟩
    · unfold sB mB
      rw [if_neg (show ¬ R 5 4 = 0 by rw [c1]; decide), if_neg (show ¬ nw 1 = 0 by rw [c2]; decide), hj, ec]
      exact bw_B n (by omega) v hv
    · rw [ec] at h1 h2 ⊢
      exact bw_okc n (by omega) v hv h1 h2
theorem rCuts_b {R : S2} {nw : Nat → Int32} {c : Int32} {m v : Nat} (h : qLc (R 1) nw c m v) : ∀ i, i ≤ m → rCuts R i = nI (bcn v i)
  | 0, _ => rfl
  | i + 1, hi => by
    have e1 : rCuts R (i + 1) = rCuts R i + R 1 (i * 2 + 1) := rfl
    have e2 : bcn v (i + 1) = if v.testBit i = true then bcn v i + 1 else bcn v i := rfl
    rw [e1, e2, rCuts_b h i (by omega), (h.2 i (by omega)).2]
    by_cases t : v.testBit i = true
    · rw [if_pos t, if_pos t, nI_1]
    · rw [if_neg t, if_neg t, Int32.add_zero]
theorem RQ.lc {R : S2} {nw : Nat → Int32} {n o m v : Nat} (h : RQ R nw n o m v) : qLc (R 1) nw (nw 16) m v := h.2.1
