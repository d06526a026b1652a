/-! The pure equivalence: which link -/
theorem fl_relI {σ τ : Type} {f : Nat → σ → σ} {g : Nat → τ → τ} (P : Nat → σ → τ → Prop) : ∀ (n : Nat) {s : σ} {t : τ}, P 0 s t → (∀ i s t, i < n → P i s t → P (i + 1) (f i s) (g i t)) → P n (fl f n s) (fl g n t)
  | 0, _, _, h, _ => h
  | n + 1, _, _, h, k => k n _ _ (Nat.lt_succ_self n) (fl_relI P n h (fun i s t hi => k i s t (by omega)))
theorem ff_all {p : Nat → Bool} {n : Nat} : ff p n = n ↔ ∀ j, j < n → p j = false := by
  constructor
  · intro h j hj
    exact ff_no p n j (by omega)
  · intro h
    rcases Nat.lt_or_ge (ff p n) n with c | c
    · have a := ff_yes p n c
      rw [h _ c] at a
      exact absurd a Bool.false_ne_true
    · exact Nat.le_antisymm (ff_le p n) c
theorem bcn_cong {a b : Nat} (n : Nat) (h : ∀ j, j < n → a.testBit j = b.testBit j) : bcn a n = bcn b n := fl_cong n (fun i hi s => by rw [h i hi])
theorem bcn_s (S i : Nat) : bcn S (i + 1) = if S.testBit i = true then bcn S i + 1 else bcn S i := rfl
theorem bcn_le (S : Nat) : ∀ i, bcn S i ≤ i
  | 0 => Nat.le_refl 0
  | i + 1 => by
    have := bcn_le S i
    rw [bcn_s]; split <;> omega
theorem bcn_mono {S k : Nat} (hk : S.testBit k = true) : ∀ i, k < i → bcn S k < bcn S i
  | i + 1, h => by
    rw [bcn_s]
    by_cases e : k = i
    · subst e; rw [if_pos hk]; omega
    · have := bcn_mono hk i (by omega)
      split <;> omega
/-- what was seen, on both sides -/
def UW (U : S2) (sw sv : Nat → Int32) (k : Nat) : Prop := U 2 0 = nI k ∧ k ≤ 6 ∧ ∀ i, i < k → U 0 i = sw i ∧ U 1 i = sv i ∧ ∃ w : Nat, w < 6 ∧ U 0 i = nI w
theorem UW.okU {U : S2} {sw sv : Nat → Int32} {k : Nat} (h : UW U sw sv k) : okU U k := fun i hi => by
  obtain ⟨_, _, w, hw, e⟩ := h.2.2 i hi
  have e2 : uw U i = w := by unfold uw; rw [e]; exact nI_clamp (by omega)
  rw [e2]; exact ⟨e, hw⟩
theorem UW.okSw {U : S2} {sw sv : Nat → Int32} {k : Nat} (h : UW U sw sv k) : okSw sw k := fun i hi => by
  obtain ⟨a, _, w, hw, e⟩ := h.2.2 i hi
  have e2 : sn sw i = w := by unfold sn; rw [← a, e]; exact nI_clamp (by omega)
  rw [e2]; exact ⟨a ▸ e, hw⟩
theorem agree_eq {U W : S2} {sw sv fa : Nat → Int32} {k o : Nat} (h : UW U sw sv k) (hf : ∀ q, q < 6 → rLook W o q = fa q) : uAg U W o k ↔ mAg fa sw sv k := by
  show ff (uB U W o) k = k ↔ _
  rw [ff_all]
  refine forall_congr' (fun j => forall_congr' (fun hj => ?_))
  obtain ⟨a, b, w, hw, e⟩ := h.2.2 j hj
  have e1 : uw U j = w := by unfold uw; rw [e]; exact nI_clamp (by omega)
  have e2 : sn sw j = w := by unfold sn; rw [← a, e]; exact nI_clamp (by omega)
  unfold uB
  rw [e1, e2, hf w hw, b, decide_eq_false_iff_not]
  exact Decidable.not_not
theorem UW_add {U : S2} {sw sv : Nat → Int32} {k q : Nat} {l v : Int32} (h : UW U sw sv k) (hk : k < 6) (hl : l = nI q) (hq : q < 6) : UW (uAdd U k l v) (upd sw k l) (upd sv k v) (k + 1) := by
  have e0 : uAdd U k l v 0 = upd (U 0) k l := rfl
  have e1 : uAdd U k l v 1 = upd (U 1) k v := rfl
  have e2 : uAdd U k l v 2 0 = U 2 0 + 1 := rfl
  refine ⟨by rw [e2, h.1, nI_1], by omega, fun i hi => ?_⟩
  rw [e0, e1]
  by_cases e : i = k
  · subst e
    rw [pk_us, pk_us, pk_us, pk_us]
    exact ⟨rfl, rfl, q, hq, hl⟩
  · rw [pk_un e, pk_un e, pk_un e, pk_un e]
    exact h.2.2 i (by omega)
theorem UW_0 {U : S2} {sw sv : Nat → Int32} : UW (u2 U 2 0 0) sw sv 0 := ⟨rfl, by decide, fun i hi => absurd hi (Nat.not_lt_zero i)⟩
/-- the links that may be cut, on both sides -/
def SU (Y : S2) (set : Int32) (al : Nat → Int32) (i : Nat) : Prop := ∃ S : Nat, S < 2 ^ i ∧ set = nI S ∧ Y 2 0 = nI (bcn S i) ∧ ∀ k, k < i → S.testBit k = true → Y 0 (bcn S k) = nI k ∧ ∀ w, w < 6 → Y 1 (bcn S k * 6 + w) = al (6 * k + w)
theorem SU_same {Y : S2} {set : Int32} {al : Nat → Int32} {i : Nat} (h : SU Y set al i) : SU Y set al (i + 1) := by
  obtain ⟨S, h1, h2, h3, h4⟩ := h
  have hb : S.testBit i = false := Nat.testBit_lt_two_pow h1
  refine ⟨S, Nat.lt_of_lt_of_le h1 (Nat.pow_le_pow_right (by decide) (by omega)), h2, ?_, fun k hk ht => ?_⟩
  · rw [bcn_s, hb, if_neg Bool.false_ne_true]; exact h3
  · by_cases e : k = i
    · subst e; rw [hb] at ht; exact absurd ht Bool.false_ne_true
    · exact h4 k (by omega) ht
theorem yLk_at {Y R : S2} {o s : Nat} : ∀ {n j : Nat}, yLk Y R o s n 1 j = if s * 6 ≤ j ∧ j < s * 6 + n then rLook R o (j - s * 6) else Y 1 j
  | 0, j => by rw [if_neg (by omega)]; rfl
  | n + 1, j => by
    have e : yLk Y R o s (n + 1) 1 = upd (yLk Y R o s n 1) (s * 6 + n) (rLook R o n) := rfl
    rw [e]
    by_cases h : j = s * 6 + n
    · subst h; rw [pk_us, if_pos (by omega), show s * 6 + n - s * 6 = n by omega]
    · rw [pk_un h, yLk_at (n := n)]
      by_cases h2 : s * 6 ≤ j ∧ j < s * 6 + n
      · rw [if_pos h2, if_pos (by omega)]
      · rw [if_neg h2, if_neg (by omega)]
theorem mAl_at {fa al : Nat → Int32} {j : Nat} : ∀ {n x : Nat}, mAl fa al j n x = if 6 * j ≤ x ∧ x < 6 * j + n then fa (x - 6 * j) else al x
  | 0, x => by rw [if_neg (by omega)]; rfl
  | n + 1, x => by
    have e : mAl fa al j (n + 1) = upd (mAl fa al j n) (6 * j + n) (fa n) := rfl
    rw [e]
    by_cases h : x = 6 * j + n
    · subst h; rw [pk_us, if_pos (by omega), show 6 * j + n - 6 * j = n by omega]
    · rw [pk_un h, mAl_at (n := n)]
      by_cases h2 : 6 * j ≤ x ∧ x < 6 * j + n
      · rw [if_pos h2, if_pos (by omega)]
      · rw [if_neg h2, if_neg (by omega)]
theorem bw_or2 : ∀ i, i < 7 → ∀ S, S < 2 ^ i → (S ||| 2 ^ i) < 2 ^ (i + 1) := by decide +kernel
theorem SU_add {Y W : S2} {set : Int32} {al fa : Nat → Int32} {i o : Nat} (hi : i < 7) (h : SU Y set al i) (hf : ∀ q, q < 6 → rLook W o q = fa q) : SU (yAdd Y W o (yc Y) (nI i)) (set ||| ((1 : Int32) <<< (nI i &&& 31))) (mAl fa al i 6) (i + 1) := by
  obtain ⟨S, h1, h2, h3, h4⟩ := h
  have hS : S < 128 := bw_m h1 (by omega)
  have hb : S.testBit i = false := Nat.testBit_lt_two_pow h1
  have hle := bcn_le S i
  have hc : yc Y = bcn S i := by unfold yc; rw [h3]; exact nI_clamp (by omega)
  rw [hc]
  have bb : ∀ k, k < 8 → (S ||| 2 ^ i).testBit k = (S.testBit k || decide (k = i)) := fun k hk => bw_orb S hS i hi k hk
  have bk : ∀ k, k ≤ i → bcn (S ||| 2 ^ i) k = bcn S k := fun k hk => bcn_cong k (fun j hj => by rw [bb j (by omega), decide_eq_false (by omega), Bool.or_false])
  have e0 : yAdd Y W o (bcn S i) (nI i) 0 = upd (Y 0) (bcn S i) (nI i) := by
    show yLk (u2 Y 0 (bcn S i) (nI i)) W o (bcn S i) 6 0 = _
    rw [yLk_k (by decide)]; rfl
  have e1 : ∀ j, yAdd Y W o (bcn S i) (nI i) 1 j = if bcn S i * 6 ≤ j ∧ j < bcn S i * 6 + 6 then rLook W o (j - bcn S i * 6) else Y 1 j := fun j => by
    show yLk (u2 Y 0 (bcn S i) (nI i)) W o (bcn S i) 6 1 j = _
    rw [yLk_at]; rfl
  have e2 : yAdd Y W o (bcn S i) (nI i) 2 0 = Y 2 0 + 1 := rfl
  refine ⟨S ||| 2 ^ i, bw_or2 i hi S h1, by rw [h2]; exact (bw_or S hS i hi).1, ?_, fun k hk ht => ?_⟩
  · rw [e2, h3, bcn_s, bk i (Nat.le_refl i), bb i (by omega), decide_eq_true rfl, Bool.or_true, if_pos rfl, nI_1]
  · rw [bk k (by omega), e0]
    by_cases e : k = i
    · subst e
      refine ⟨by rw [pk_us], fun w hw => ?_⟩
      rw [e1, if_pos (by omega), mAl_at, if_pos (by omega), show bcn S k * 6 + w - bcn S k * 6 = w by omega, show 6 * k + w - 6 * k = w by omega]
      exact hf w hw
    · have ht' : S.testBit k = true := by rw [bb k (by omega), decide_eq_false e, Bool.or_false] at ht; exact ht
      obtain ⟨a, b⟩ := h4 k (by omega) ht'
      have lt := bcn_mono ht' i (by omega)
      refine ⟨by rw [pk_un (by omega)]; exact a, fun w hw => ?_⟩
      rw [e1, if_neg (by omega), mAl_at, if_neg (by omega)]
      exact b w hw
theorem find_eq {R U : S2} {nw sw sv : Nat → Int32} {n o m v k : Nat} (h : RQ R nw n o m v) (hu : UW U sw sv k) {t0 : S2 × S2 × S2 × Int32 × S2} {u0 : M9} (h0 : t0.2.2.2.2 2 0 = 0) (h1 : u0.1 = 0) (h2 : ∀ j, j < 99 → u0.2.1.1.1 j = nw j) :
    SU (fsN R U n o m k m t0).2.2.2.2 (fkN n o k sw sv m u0).1 (fkN n o k sw sv m u0).2.2 m := by
  have hm := h.1.s3.m7
  refine (fl_relI (σ := S2 × S2 × S2 × Int32 × S2) (τ := M9) (f := fsStep R U n o m k) (g := fkStep n o k sw sv) (fun i t u => SU t.2.2.2.2 u.1 u.2.2 i ∧ ∀ j, j < 99 → u.2.1.1.1 j = nw j) m ⟨⟨0, by decide, h1, h0, fun k hk => absurd hk (Nat.not_lt_zero k)⟩, h2⟩ (fun i t u hi hp => ?_)).1
  obtain ⟨hs, hn⟩ := hp
  refine ⟨?_, fun j hj => (fkStep_k j hj).trans (hn j hj)⟩
  have cut := (h.lc.cut hm.2.1 hi).1
  unfold fsStep fkStep
  rw [hn 16 (by decide)]
  by_cases c : hasB (nw 16) i
  · rw [if_pos (cut.mpr c), if_pos c]
    exact SU_same hs
  · rw [if_neg (fun x => c (cut.mp x)), if_neg c]
    have hr : RQ (rCopy t.1 R) u.2.1.1.1 n o m v := RQ_row (RQ_copy h) hn
    have hf := facts_eq (x := t.2.2.2.1) (R := u2 (rCopy t.1 R) 1 (i * 2 + 1) 1) (A := t.2.1) (B := t.2.2.1) (t := u.2.1) (c := nw 16 ||| ((1 : Int32) <<< (nI i &&& 31))) (v := v ||| 2 ^ i) hr.1 (by
      have l := lc_cut hr.lc hm.2.1 hi
      rw [hn 16 (by decide)] at l
      exact l) hr.2.2.1 hr.2.2.2.1
    have ag := agree_eq hu hf
    by_cases a : uAg U (snd t.2.2.2.1 (u2 (rCopy t.1 R) 1 (i * 2 + 1) 1) t.2.1 t.2.2.1 n o m).2.2.1 o k
    · rw [if_pos a, if_pos (ag.mp a)]
      exact SU_add (by omega) hs hf
    · rw [if_neg a, if_neg (fun x => a (ag.mpr x))]
      exact SU_same hs
def bFst (m S : Nat) : Bool := decide (S = 0) || (decide (mWh (nI S) < 7) && decide (mWh (nI S) < m) && S.testBit (mWh (nI S)) && decide (bcn S (mWh (nI S)) = 0))
theorem bw_first0 : ∀ m, m < 8 → ∀ S, S < 2 ^ m → bFst m S = true := by decide +kernel
theorem bw_firstz : ¬ mWh (nI 0) < 7 := by decide +kernel
theorem bw_first (m : Nat) (hm : m < 8) (S : Nat) (hS : S < 2 ^ m) : ((S = 0 → ¬ mWh (nI S) < 7) ∧ (¬ S = 0 → mWh (nI S) < 7 ∧ mWh (nI S) < m ∧ S.testBit (mWh (nI S)) = true ∧ bcn S (mWh (nI S)) = 0)) := by
  refine ⟨fun h => by rw [h]; exact bw_firstz, fun h => ?_⟩
  have b := bw_first0 m hm S hS
  unfold bFst at b
  rw [decide_eq_false h, Bool.false_or, Bool.and_eq_true, Bool.and_eq_true, Bool.and_eq_true, decide_eq_true_iff, decide_eq_true_iff, decide_eq_true_iff] at b
  exact ⟨b.1.1.1, b.1.1.2, b.1.2, b.2⟩
theorem bw_c7 : ∀ m, m < 8 → ∀ S, S < 2 ^ m → bcn S 7 = bcn S m := by decide +kernel
theorem which_zero {Y : S2} {set : Int32} {al : Nat → Int32} {m : Nat} (hm : m ≤ 7) (h : SU Y set al m) : Y 2 0 = mOnes set 8 := by
  obtain ⟨S, h1, h2, h3, _⟩ := h
  rw [h3, h2, bw_ones m (by omega) S h1]
theorem which_one {Y : S2} {set : Int32} {al : Nat → Int32} {m : Nat} (hm : m ≤ 7) (h : SU Y set al m) : (if Y 2 0 = 0 then (-9) else Y 0 0) = (if mWh set < 7 then nI (mWh set) else -9) := by
  obtain ⟨S, h1, h2, h3, h4⟩ := h
  obtain ⟨f0, f1⟩ := bw_first m (by omega) S h1
  have z := bw_zero m (by omega) S h1
  rw [h3, h2]
  by_cases c : S = 0
  · rw [if_pos (z.mpr c), if_neg (f0 c)]
  · obtain ⟨a, b, d, e⟩ := f1 c
    rw [if_neg (fun x => c (z.mp x)), if_pos a]
    have g := (h4 _ b d).1
    rw [e] at g
    exact g
theorem mLk_nat {al : Nat → Int32} {set : Int32} {w k : Nat} : ∀ n, ∃ t : Nat, t ≤ n ∧ mLk al set w k n = nI t
  | 0 => ⟨0, Nat.le_refl 0, rfl⟩
  | n + 1 => by
    obtain ⟨t, ht, e⟩ := mLk_nat (al := al) (set := set) (w := w) (k := k) n
    have e1 : mLk al set w k (n + 1) = mLk al set w k n + (if hasB set k ∧ hasB set n ∧ al (6 * k + w) = al (6 * n + w) then 1 else 0) := rfl
    rw [e1, e]
    split
    · exact ⟨t + 1, by omega, nI_1 t⟩
    · exact ⟨t, by omega, Int32.add_zero _⟩
theorem mMost_nat {al : Nat → Int32} {set : Int32} {w : Nat} : ∀ n, ∃ t : Nat, t ≤ 7 ∧ mMost al set w n = nI t
  | 0 => ⟨0, by decide, rfl⟩
  | n + 1 => by
    obtain ⟨t, ht, e⟩ := mMost_nat (al := al) (set := set) (w := w) n
    obtain ⟨u, hu, e2⟩ := mLk_nat (al := al) (set := set) (w := w) (k := n) 7
    have e1 : mMost al set w (n + 1) = if mMost al set w n < mLk al set w n 7 then mLk al set w n 7 else mMost al set w n := rfl
    rw [e1]
    split
    · exact ⟨u, hu, e2⟩
    · exact ⟨t, ht, e⟩
/-- the picture of the suspects that both counts rest on -/
def SP (Y : S2) (al : Nat → Int32) (S : Nat) : Prop := S < 128 ∧ ∀ k, k < 7 → S.testBit k = true → ∀ w, w < 6 → Y 1 (bcn S k * 6 + w) = al (6 * k + w)
theorem yAl_eq {Y : S2} {al : Nat → Int32} {S s w k : Nat} (h : SP Y al S) (hw : w < 6) (hk : k < 7) (ht : S.testBit k = true) : ∀ i, i ≤ 7 → yAl Y s (bcn S k) w (bcn S i) = mLk al (nI S) w k i
  | 0, _ => rfl
  | i + 1, hi => by
    have ih := yAl_eq (s := s) h hw hk ht i (by omega)
    have e1 : mLk al (nI S) w k (i + 1) = mLk al (nI S) w k i + (if hasB (nI S) k ∧ hasB (nI S) i ∧ al (6 * k + w) = al (6 * i + w) then 1 else 0) := rfl
    have hbk := (bw_has S h.1 k (by omega)).mpr ht
    have hbi := bw_has S h.1 i (by omega)
    rw [e1, bcn_s]
    by_cases ti : S.testBit i = true
    · have e2 : yAl Y s (bcn S k) w (bcn S i + 1) = if Y 1 (bcn S i * 6 + w) = Y 1 (bcn S k * 6 + w) then yAl Y s (bcn S k) w (bcn S i) + 1 else yAl Y s (bcn S k) w (bcn S i) := rfl
      rw [if_pos ti, e2, ih, h.2 i (by omega) ti w hw, h.2 k hk ht w hw]
      by_cases c : al (6 * i + w) = al (6 * k + w)
      · rw [if_pos c, if_pos ⟨hbk, hbi.mpr ti, c.symm⟩]
      · rw [if_neg c, if_neg (fun x => c x.2.2.symm), Int32.add_zero]
    · rw [if_neg ti, ih, if_neg (fun x => ti (hbi.mp x.2.1)), Int32.add_zero]
theorem mLk_0 {al : Nat → Int32} {set : Int32} {w k : Nat} (h : ¬ hasB set k) : ∀ n, mLk al set w k n = 0
  | 0 => rfl
  | n + 1 => by
    have e1 : mLk al set w k (n + 1) = mLk al set w k n + (if hasB set k ∧ hasB set n ∧ al (6 * k + w) = al (6 * n + w) then 1 else 0) := rfl
    rw [e1, mLk_0 h n, if_neg (fun x => h x.1), Int32.add_zero]
theorem mMost_s {al : Nat → Int32} {set : Int32} {w i : Nat} : mMost al set w (i + 1) = if mMost al set w i < mLk al set w i 7 then mLk al set w i 7 else mMost al set w i := rfl
theorem yMo_s {Y : S2} {s w n : Nat} : yMo Y s w (n + 1) = if yMo Y s w n < yAl Y s n w s then yAl Y s n w s else yMo Y s w n := rfl
theorem most_0 {al : Nat → Int32} {set : Int32} {w i : Nat} : (if mMost al set w i < 0 then 0 else mMost al set w i) = mMost al set w i := by
  obtain ⟨t, ht, e⟩ := mMost_nat (al := al) (set := set) (w := w) i
  rw [e]
  exact if_neg (nI_pos (by omega))
theorem yMo_step {Y : S2} {al : Nat → Int32} {S w s i : Nat} (h : SP Y al S) (hw : w < 6) (hs : bcn S 7 = s) (hi : i < 7) (ih : yMo Y s w (bcn S i) = mMost al (nI S) w i) : yMo Y s w (bcn S (i + 1)) = mMost al (nI S) w (i + 1) := by
  have hbi := bw_has S h.1 i (by omega)
  rw [mMost_s, bcn_s S i]
  by_cases ti : S.testBit i = true
  · have e3 : yAl Y s (bcn S i) w s = mLk al (nI S) w i 7 := by
      have g := yAl_eq (s := s) h hw hi ti 7 (Nat.le_refl 7)
      rw [hs] at g
      exact g
    rw [if_pos ti, yMo_s, ih, e3]
  · rw [if_neg ti, ih, mLk_0 (fun x => ti (hbi.mp x)) 7, most_0]
theorem yMo_eq {Y : S2} {al : Nat → Int32} {S w s : Nat} (h : SP Y al S) (hw : w < 6) (hs : bcn S 7 = s) : ∀ i, i ≤ 7 → yMo Y s w (bcn S i) = mMost al (nI S) w i := by
  intro i
  induction i with
  | zero =>
    intro _
    have a : yMo Y s w 0 = 0 := rfl
    have b : mMost al (nI S) w 0 = 0 := rfl
    have c : bcn S 0 = 0 := rfl
    rw [c, a, b]
  | succ i ih => intro hi; exact yMo_step h hw hs (by omega) (ih (by omega))
theorem best_eq {Y : S2} {al : Nat → Int32} {S s : Nat} (h : SP Y al S) (hs : bcn S 7 = s) : ∀ n, n ≤ 5 → mBst al (nI S) (n + 1) = yBe Y s n
  | 0, _ => by
    have ym : ∀ w, w < 6 → yMo Y s w s = mMost al (nI S) w 7 := fun w hw => by
      have g := yMo_eq h hw hs 7 (Nat.le_refl 7)
      rw [hs] at g
      exact g
    have e : mBst al (nI S) 1 = if mMost al (nI S) 0 7 < 8 then (nI 0, mMost al (nI S) 0 7) else (-9, 8) := rfl
    have e2 : yBe Y s 0 = (0, yMo Y s 0 s) := rfl
    obtain ⟨t, ht, et⟩ := mMost_nat (al := al) (set := nI S) (w := 0) 7
    rw [e, e2, ym 0 (by decide), et, if_pos (rf_ltMP rfl (nl 8) (by omega) (by omega) (by omega))]
    rfl
  | n + 1, hn => by
    have ym : ∀ w, w < 6 → yMo Y s w s = mMost al (nI S) w 7 := fun w hw => by
      have g := yMo_eq h hw hs 7 (Nat.le_refl 7)
      rw [hs] at g
      exact g
    have e : mBst al (nI S) (n + 1 + 1) = if mMost al (nI S) (n + 1) 7 < (mBst al (nI S) (n + 1)).2 then (nI (n + 1), mMost al (nI S) (n + 1) 7) else mBst al (nI S) (n + 1) := rfl
    have e2 : yBe Y s (n + 1) = if yMo Y s (1 + n) s < (yBe Y s n).2 then (nI (1 + n), yMo Y s (1 + n) s) else yBe Y s n := rfl
    rw [e, e2, best_eq h hs n (by omega), ym (1 + n) (by omega), Nat.add_comm 1 n]
theorem ask_eq {Y : S2} {set : Int32} {al : Nat → Int32} {m : Nat} (hm : m ≤ 7) (h : SU Y set al m) : ∃ c : Nat, c ≤ 7 ∧ Y 2 0 = nI c ∧ mOnes set 8 = nI c ∧ (yBe Y c 5).1 = (mBst al set 6).1 := by
  obtain ⟨S, h1, h2, h3, h4⟩ := h
  have hS : S < 128 := bw_m h1 hm
  have c7 := bw_c7 m (by omega) S h1
  refine ⟨bcn S 7, bcn_le S 7, by rw [c7]; exact h3, by rw [h2, bw_ones m (by omega) S h1, c7], ?_⟩
  have hp : SP Y al S := ⟨hS, fun k hk ht => (h4 k (by
    rcases Nat.lt_or_ge k m with x | x
    · exact x
    · have := Nat.testBit_lt_two_pow (Nat.lt_of_lt_of_le h1 (Nat.pow_le_pow_right (n := 2) (by decide) x))
      rw [this] at ht
      exact absurd ht Bool.false_ne_true) ht).2⟩
  rw [h2, best_eq hp rfl 5 (Nat.le_refl 5)]
