/-! The pure equivalence: what is undone, images -/
def GR (R : S2) (nw : Nat → Int32) : Prop := ∃ n o m v, RQ R nw n o m v ∧ 1 ≤ n ∧ rLm R
theorem GR_copy {R O : S2} {nw : Nat → Int32} (h : GR O nw) : GR (rCopy R O) nw := by
  obtain ⟨n, o, m, v, a, b, c⟩ := h
  exact ⟨n, o, m, v, RQ_copy a, b, c⟩
theorem GR_row {R : S2} {nw nw' : Nat → Int32} (h : GR R nw) (e : ∀ k, k < 99 → nw' k = nw k) : GR R nw' := by
  obtain ⟨n, o, m, v, a, b, c⟩ := h
  exact ⟨n, o, m, v, RQ_row a e, b, c⟩
theorem GR.okB {R : S2} {nw : Nat → Int32} (h : GR R nw) : okB R := by
  obtain ⟨n, o, m, v, a, b, c⟩ := h
  exact a.okB
theorem vu_s {α : Type} {f : Nat → α} {i : Nat} {v : α} : va_up f i v i = v := if_pos rfl
theorem vu_n {α : Type} {f : Nat → α} {i j : Nat} {v : α} (h : j ≠ i) : va_up f i v j = f j := if_neg h
theorem mSh_at {ps : Nat → Int32} : ∀ {n k : Nat}, mSh ps n k = if k < n then ps (k + 99) else ps k
  | 0, k => by rw [if_neg (by omega)]; rfl
  | n + 1, k => by
    have e : mSh ps (n + 1) = upd (mSh ps n) n (mSh ps n (n + 99)) := rfl
    rw [e]
    by_cases h : k = n
    · subst h; rw [pk_us, if_pos (by omega), mSh_at (n := k), if_neg (by omega)]
    · rw [pk_un h, mSh_at (n := n)]
      by_cases h2 : k < n
      · rw [if_pos h2, if_pos (by omega)]
      · rw [if_neg h2, if_neg (by omega)]
def HR (Hs : Nat → S2) (x s : Nat) (ps : Nat → Int32) : Prop := ∀ j, j < s → GR (Hs ((x + 6 - s + j) % 6)) (fun k => ps (99 * j + k))
theorem HR_push {Hs : Nat → S2} {x s : Nat} {ps nw : Nat → Int32} {X0 : S2} (h : HR Hs x s ps) (hx : x < 6) (hs : s ≤ 6) (hg : GR X0 nw) : HR (va_up Hs x (rCopy (Hs x) X0)) ((x + 1) % 6) (hsz s) (mNo nw ps s) := by
  intro j hj
  unfold hsz at hj ⊢
  unfold mNo
  by_cases s6 : s = 6
  · subst s6
    rw [if_pos (by omega)] at hj ⊢
    rw [if_pos rfl]
    by_cases j5 : j = 5
    · subst j5
      rw [show ((x + 1) % 6 + 6 - 6 + 5) % 6 = x by omega, vu_s]
      refine GR_row (GR_copy hg) (fun k hk => ?_)
      show brg nw (mSh ps 495) 0 495 99 (99 * 5 + k) = nw k
      rw [brg_at, if_pos (by omega), show 0 + (99 * 5 + k - 495) = k by omega]
    · rw [vu_n (by omega), show ((x + 1) % 6 + 6 - 6 + j) % 6 = (x + 6 - 6 + (j + 1)) % 6 by omega]
      refine GR_row (h (j + 1) (by omega)) (fun k hk => ?_)
      show brg nw (mSh ps 495) 0 495 99 (99 * j + k) = ps (99 * (j + 1) + k)
      rw [brg_at, if_neg (by omega), mSh_at, if_pos (by omega), show 99 * j + k + 99 = 99 * (j + 1) + k by omega]
  · rw [if_neg (by omega)] at hj ⊢
    rw [if_neg s6]
    by_cases js : j = s
    · subst js
      rw [show ((x + 1) % 6 + 6 - (j + 1) + j) % 6 = x by omega, vu_s]
      refine GR_row (GR_copy hg) (fun k hk => ?_)
      show brg nw ps 0 (99 * j) 99 (99 * j + k) = nw k
      rw [brg_at, if_pos (by omega), show 0 + (99 * j + k - 99 * j) = k by omega]
    · rw [vu_n (by omega), show ((x + 1) % 6 + 6 - (s + 1) + j) % 6 = (x + 6 - s + j) % 6 by omega]
      refine GR_row (h j (by omega)) (fun k hk => ?_)
      show brg nw ps 0 (99 * s) 99 (99 * j + k) = ps (99 * j + k)
      rw [brg_at, if_neg (by omega)]
theorem HR_pop {Hs : Nat → S2} {x s : Nat} {ps nw : Nat → Int32} {X0 : S2} (h : HR Hs x s ps) (hx : x < 6) (hs : s ≤ 6) (h1 : 1 ≤ s) : HR Hs ((x + 5) % 6) (s - 1) ps ∧ GR (rCopy X0 (Hs ((x + 5) % 6))) (brg ps nw (99 * (s - 1)) 0 99) := by
  refine ⟨fun j hj => ?_, ?_⟩
  · rw [show ((x + 5) % 6 + 6 - (s - 1) + j) % 6 = (x + 6 - s + j) % 6 by omega]
    exact h j (by omega)
  · have g := h (s - 1) (by omega)
    rw [show (x + 6 - s + (s - 1)) % 6 = (x + 5) % 6 by omega] at g
    refine GR_row (GR_copy g) (fun k hk => ?_)
    rw [brg_at, if_pos (by omega), show k - 0 = k from rfl]
def IM (X3 X4 : S2) (kp im kq : Nat → Int32) : Prop := (kp 0 = kq 0 ∧ kp 1 = kq 1) ∧ (¬ kq 0 = 0 → GR X3 im) ∧ (¬ kq 1 = 0 → GR X4 (fun k => im (99 + k)))
theorem IM_keep0 {X0 X3 X4 : S2} {nw kp im kq : Nat → Int32} (h : IM X3 X4 kp im kq) (hg : GR X0 nw) : IM (rCopy X3 X0) X4 (upd kp 0 1) (brg nw im 0 (99 * 0) 99) (upd kq 0 1) := by
  obtain ⟨⟨a, b⟩, c, d⟩ := h
  refine ⟨⟨by rw [pk_us, pk_us], by rw [pk_un (by decide), pk_un (by decide)]; exact b⟩, fun _ => GR_row (GR_copy hg) (fun k hk => ?_), fun e => GR_row (d ?_) (fun k hk => ?_)⟩
  · rw [brg_at, if_pos (by omega), show 0 + (k - 99 * 0) = k by omega]
  · rw [pk_un (by decide)] at e; exact e
  · show brg nw im 0 (99 * 0) 99 (99 + k) = im (99 + k)
    rw [brg_at, if_neg (by omega)]
theorem IM_keep1 {X0 X3 X4 : S2} {nw kp im kq : Nat → Int32} (h : IM X3 X4 kp im kq) (hg : GR X0 nw) : IM X3 (rCopy X4 X0) (upd kp 1 1) (brg nw im 0 (99 * 1) 99) (upd kq 1 1) := by
  obtain ⟨⟨a, b⟩, c, d⟩ := h
  refine ⟨⟨by rw [pk_un (by decide), pk_un (by decide)]; exact a, by rw [pk_us, pk_us]⟩, fun e => GR_row (c ?_) (fun k hk => ?_), fun _ => GR_row (GR_copy hg) (fun k hk => ?_)⟩
  · rw [pk_un (by decide)] at e; exact e
  · rw [brg_at, if_neg (by omega)]
  · show brg nw im 0 (99 * 1) 99 (99 + k) = nw k
    rw [brg_at, if_pos (by omega), show 0 + (99 + k - 99 * 1) = k by omega]
theorem IM_back0 {X0 X3 X4 : S2} {nw kp im kq : Nat → Int32} (h : IM X3 X4 kp im kq) (h0 : ¬ kq 0 = 0) : GR (rCopy X0 X3) (brg im nw (99 * 0) 0 99) := GR_row (GR_copy (h.2.1 h0)) (fun k hk => by
  rw [brg_at, if_pos (by omega), show 99 * 0 + (k - 0) = k by omega])
theorem IM_back1 {X0 X3 X4 : S2} {nw kp im kq : Nat → Int32} (h : IM X3 X4 kp im kq) (h0 : ¬ kq 1 = 0) : GR (rCopy X0 X4) (brg im nw (99 * 1) 0 99) := GR_row (GR_copy (h.2.2 h0)) (fun k hk => by
  rw [brg_at, if_pos (by omega), show 99 * 1 + (k - 0) = 99 + k by omega])
