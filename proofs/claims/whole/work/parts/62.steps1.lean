/-! One step a method -/
set_option maxRecDepth 100000 in
set_option maxHeartbeats 4000000 in
theorem st_type {V : VT} {ad : Nat → Nat → Nat} {ad2 : Nat → Nat} {CW MW : va_W} (hJ : JX V ad ad2 CW MW) (l : Int32) : ST V ad ad2 yX8_type cX8_type 2 yX9_type cX9_type 2 [.int l] CW MW := by
  obtain ⟨X0, X1, X2, X3, X4, Hs, L, z, b, c, d, u, lt, sv, A, B, x, s, kp, U, Y, nw, rw, ps, im, sw, svv, da, co, pl, me, fa, ao, al, ax, ta, ts, tv, il, k, n, o, m, v, rfl, rfl, hI⟩ := hJ
  by_cases h1 : l < 0
  · exact ST_mk ⟨Nat.le_of_ble_eq_true rfl, Nat.le_of_ble_eq_true rfl, rfl, rfl⟩ ⟨Nat.le_of_ble_eq_true rfl, Nat.le_of_ble_eq_true rfl, rfl, rfl⟩ (c_X8_type_bad V ad X0 X1 X2 X3 X4 Hs L z b c d u lt sv A B x s kp U Y n o m k hI.okC l (fun g => g.1 h1)) (c_X9_type_bad V ad2 nw rw ps im kp L sw svv da co pl me fa ao al ax ta ts tv il s z k n o m hI.okM l (fun g => g.1 h1)) rfl ⟨X0, X1, X2, X3, X4, Hs, L, z, b, c, d, u, lt, sv, A, B, x, s, kp, U, Y, nw, rw, ps, im, sw, svv, da, co, pl, me, fa, ao, al, ax, ta, ts, tv, il, k, n, o, m, v, rfl, rfl, hI⟩
  · by_cases h2 : l ≤ 255
    · have h2' : ¬ 255 < l := Int32.not_lt.mpr h2
      by_cases h3 : z < 120
      · obtain ⟨y, hy, ey⟩ := nI_of2 (M := 255) (n := 255) (by decide) h1 h2
        have hL : okL (upd L z l) (z + 1) := fun j hj => by
          by_cases e : j = z
          · subst e; rw [pk_us]; exact ⟨y, hy, ey⟩
          · rw [pk_un e]; exact hI.2.1.2 j (by omega)
        exact ST_mk ⟨Nat.le_of_ble_eq_true rfl, Nat.le_of_ble_eq_true rfl, rfl, rfl⟩ ⟨Nat.le_of_ble_eq_true rfl, Nat.le_of_ble_eq_true rfl, rfl, rfl⟩ (c_X8_type_ok V ad X0 X1 X2 X3 X4 Hs L z b c d u lt sv A B x s kp U Y n o m k hI.okC l h1 h2 h3) (c_X9_type_ok V ad2 nw rw ps im kp L sw svv da co pl me fa ao al ax ta ts tv il s z k n o m hI.okM l h1 h2' h3) rfl ⟨X0, X1, X2, X3, X4, Hs, upd L z l, z + 1, b, c, d, u, lt, sv, A, B, x, s, kp, U, Y, nw, rw, ps, im, sw, svv, da, co, pl, me, fa, ao, al, ax, ta, ts, tv, il, k, n, o, m, v, rfl, rfl, IV_text hI (by omega) hL⟩
      · have hz := hI.2.1.1
        exact ST_mk ⟨Nat.le_of_ble_eq_true rfl, Nat.le_of_ble_eq_true rfl, rfl, rfl⟩ ⟨Nat.le_of_ble_eq_true rfl, Nat.le_of_ble_eq_true rfl, rfl, rfl⟩ (c_X8_type_full V ad X0 X1 X2 X3 X4 Hs L z b c d u lt sv A B x s kp U Y n o m k hI.okC l h1 h2 (by omega)) (c_X9_type_full V ad2 nw rw ps im kp L sw svv da co pl me fa ao al ax ta ts tv il s z k n o m hI.okM l h1 h2' (by omega)) rfl ⟨X0, X1, X2, X3, X4, Hs, L, z, b, c, d, u, lt, sv, A, B, x, s, kp, U, Y, nw, rw, ps, im, sw, svv, da, co, pl, me, fa, ao, al, ax, ta, ts, tv, il, k, n, o, m, v, rfl, rfl, hI⟩
    · have h2' : 255 < l := Int32.not_le.mp h2
      exact ST_mk ⟨Nat.le_of_ble_eq_true rfl, Nat.le_of_ble_eq_true rfl, rfl, rfl⟩ ⟨Nat.le_of_ble_eq_true rfl, Nat.le_of_ble_eq_true rfl, rfl, rfl⟩ (c_X8_type_bad V ad X0 X1 X2 X3 X4 Hs L z b c d u lt sv A B x s kp U Y n o m k hI.okC l (fun g => h2 g.2)) (c_X9_type_bad V ad2 nw rw ps im kp L sw svv da co pl me fa ao al ax ta ts tv il s z k n o m hI.okM l (fun g => g.2 h2')) rfl ⟨X0, X1, X2, X3, X4, Hs, L, z, b, c, d, u, lt, sv, A, B, x, s, kp, U, Y, nw, rw, ps, im, sw, svv, da, co, pl, me, fa, ao, al, ax, ta, ts, tv, il, k, n, o, m, v, rfl, rfl, hI⟩
set_option maxRecDepth 100000 in
set_option maxHeartbeats 4000000 in
theorem st_clear {V : VT} {ad : Nat → Nat → Nat} {ad2 : Nat → Nat} {CW MW : va_W} (hJ : JX V ad ad2 CW MW) : ST V ad ad2 yX8_clear cX8_clear 2 yX9_clear cX9_clear 2 [] CW MW := by
  obtain ⟨X0, X1, X2, X3, X4, Hs, L, z, b, c, d, u, lt, sv, A, B, x, s, kp, U, Y, nw, rw, ps, im, sw, svv, da, co, pl, me, fa, ao, al, ax, ta, ts, tv, il, k, n, o, m, v, rfl, rfl, hI⟩ := hJ
  exact ST_mk ⟨Nat.le_of_ble_eq_true rfl, Nat.le_of_ble_eq_true rfl, rfl, rfl⟩ ⟨Nat.le_of_ble_eq_true rfl, Nat.le_of_ble_eq_true rfl, rfl, rfl⟩ (c_X8_clear_ok V ad X0 X1 X2 X3 X4 Hs L z b c d u lt sv A B x s kp U Y n o m k hI.okC) (c_X9_clear_ok V ad2 nw rw ps im kp L sw svv da co pl me fa ao al ax ta ts tv il s z k n o m hI.okM) rfl ⟨X0, X1, X2, X3, X4, Hs, L, 0, b, c, d, u, lt, sv, A, B, x, s, kp, U, Y, nw, rw, ps, im, sw, svv, da, co, pl, me, fa, ao, al, ax, ta, ts, tv, il, k, n, o, m, v, rfl, rfl, IV_text hI (by decide) okL_0⟩
theorem lim_drive {L : Nat → Int32} {z : Nat} {D : S2} {p : Nat × Int32} (h : rLm D) : rLm (qDrive L z D p).2.1 := by
  unfold qDrive
  split
  · exact h
  · split
    · exact h
    · split
      · exact h
      · split <;> exact h
theorem lim_close {L : Nat → Int32} {z : Nat} {D : S2} {p : Nat × Int32} (h : rLm D) : rLm (qClose L z D p).2.1 := by
  unfold qClose
  split
  · exact h
  · split
    · exact h
    · split <;> exact h
theorem lim_limit {L : Nat → Int32} {z : Nat} {D : S2} {lt : Int32} {p : Nat × Int32} (h : rLm D) : rLm (qLimit L z D lt p).2.1 := by
  unfold qLimit
  split
  · exact h
  · split
    · exact h
    · next o1 =>
      split
      · exact h
      · have o := Decidable.of_not_not o1
        show ¬ u2 D 5 2 (tU L z (tS L z p)) 5 2 < 1
        rw [u2_ss]
        exact o.2.1
theorem lim_item {L : Nat → Int32} {z : Nat} {D : S2} {lt : Int32} {p : Nat × Int32} (h : rLm D) : rLm (qItem L z D lt p).2.1 := by
  unfold qItem
  split
  · exact lim_drive h
  · split
    · exact lim_close h
    · split
      · exact lim_limit h
      · exact h
theorem lim_wire {L : Nat → Int32} {z : Nat} : ∀ (f : Nat) {D : S2} {lt : Int32} {p : Nat × Int32}, rLm D → rLm (qWire L z f D lt p).2.1
  | 0, _, _, _, h => h
  | f + 1, D, lt, p, h => by
    simp only [qWire]
    split
    · exact h
    · split
      · exact lim_wire f (lim_item h)
      · exact lim_item h
theorem no_9 {p : Nat} (h : p ≤ 120) : ¬ nI p = -9 := fun e => nI_pos (n := p) (by omega) (by rw [e]; decide)
set_option maxRecDepth 100000 in
set_option maxHeartbeats 4000000 in
theorem st_wires {V : VT} {ad : Nat → Nat → Nat} {ad2 : Nat → Nat} {CW MW : va_W} (hJ : JX V ad ad2 CW MW) : ST V ad ad2 yX8_wires cX8_wires 1 yX9_wires cX9_wires 2 [] CW MW := by
  obtain ⟨X0, X1, X2, X3, X4, Hs, L, z, b, c, d, u, lt, sv, A, B, x, s, kp, U, Y, nw, rw, ps, im, sw, svv, da, co, pl, me, fa, ao, al, ax, ta, ts, tv, il, k, n, o, m, v, rfl, rfl, hI⟩ := hJ
  have hz := hI.2.1.1
  have w := wire_eq hI.2.1.2 120 121 (lt := 0) (p := (0, u)) (p' := (0, tv)) (WI_0 X1 rw) rfl (Nat.zero_le z) (by show z - 0 ≤ 120; omega) (by show z - 0 < 121; omega)
  have hl : rLm (qWire L z 120 (rEmpty X1) 0 (0, u)).2.1 := lim_wire 120 (by show ¬ (3 : Int32) < 1; decide)
  generalize hW : qWire L z 120 (rEmpty X1) 0 (0, u) = W at w hl
  generalize hM : mqWire L z 121 (mBeg rw) 0 (0, tv) = M at w
  rcases w with ⟨w1, w2, w3⟩ | ⟨w1, w2, n', m', w3, w4⟩
  · have hf : ¬ M.1 = -9 := by rw [w2]; exact no_9 (by omega)
    exact ST_mk ⟨Nat.le_of_ble_eq_true rfl, Nat.le_of_ble_eq_true rfl, rfl, rfl⟩ ⟨Nat.le_of_ble_eq_true rfl, Nat.le_of_ble_eq_true rfl, rfl, rfl⟩ (c_X8_wires_fail V ad X0 X1 X2 X3 X4 Hs L z b c d u lt sv A B x s kp U Y n o m k hI.okC W hW (by rw [w1]; exact Bool.false_ne_true)) (c_X9_wires_fail V ad2 nw rw ps im kp L sw svv da co pl me fa ao al ax ta ts tv il s z k n o m hI.okM M hM hf) (by rw [w2]) ⟨X0, W.2.1, X2, X3, X4, Hs, L, z, nI (tX L z W.2.2.2.1), nI (tP L z W.2.2.2.1), tK L z W.2.2.2.1, tV L z W.2.2.2.1 W.2.2.2.2, W.2.2.1, sv, A, B, x, s, kp, U, Y, nw, M.2.1, ps, im, sw, svv, da, co, pl, me, fa, ao, al, nI (tX L z M.2.2.2.1), nI (tP L z M.2.2.2.1), mK L z M.2.2.2.1, mV L z M.2.2.2.1 M.2.2.2.2, M.2.2.1, k, n, o, m, v, rfl, rfl, hI⟩
  · have g : RQ (rCopy X0 W.2.1) (brg M.2.1 nw 0 0 99) n' 0 m' 0 := RQ_row (RQ_copy w3.1) (fun j hj => by rw [brg_at, if_pos (by omega), show 0 + (j - 0) = j by omega])
    have e : W.2.1 5 0 = (brg M.2.1 nw 0 0 99) 0 := by rw [w3.1.1.1.1, brg_at, if_pos (by omega)]; exact w3.1.1.1.2.1.symm
    exact ST_mk ⟨Nat.le_of_ble_eq_true rfl, Nat.le_of_ble_eq_true rfl, rfl, rfl⟩ ⟨Nat.le_of_ble_eq_true rfl, Nat.le_of_ble_eq_true rfl, rfl, rfl⟩ (c_X8_wires_ok V ad X0 X1 X2 X3 X4 Hs L z b c d u lt sv A B x s kp U Y n o m k hI.okC W hW w1 w3.1.okB) (c_X9_wires_ok V ad2 nw rw ps im kp L sw svv da co pl me fa ao al ax ta ts tv il s z k n o m hI.okM M hM w2) e ⟨rCopy X0 W.2.1, W.2.1, X2, X3, X4, va_up Hs x (rCopy (Hs x) X0), L, 0, nI (tX L z W.2.2.2.1), nI (tP L z W.2.2.2.1), tK L z W.2.2.2.1, tV L z W.2.2.2.1 W.2.2.2.2, W.2.2.1, sv, A, B, (x + 1) % 6, hsz s, kp, U, Y, brg M.2.1 nw 0 0 99, M.2.1, mNo nw ps s, im, sw, svv, da, co, pl, me, fa, ao, al, nI (tX L z M.2.2.2.1), nI (tP L z M.2.2.2.1), mK L z M.2.2.2.1, mV L z M.2.2.2.1 M.2.2.2.2, M.2.2.1, k, n', 0, m', 0, rfl, rfl, IV_text (IV_push hI ⟨g, w4, hl⟩) (by decide) okL_0⟩
set_option maxRecDepth 100000 in
set_option maxHeartbeats 4000000 in
theorem st_frames {V : VT} {ad : Nat → Nat → Nat} {ad2 : Nat → Nat} {CW MW : va_W} (hJ : JX V ad ad2 CW MW) : ST V ad ad2 yX8_frames cX8_frames 1 yX9_frames cX9_frames 3 [] CW MW := by
  obtain ⟨X0, X1, X2, X3, X4, Hs, L, z, b, c, d, u, lt, sv, A, B, x, s, kp, U, Y, nw, rw, ps, im, sw, svv, da, co, pl, me, fa, ao, al, ax, ta, ts, tv, il, k, n, o, m, v, rfl, rfl, hI⟩ := hJ
  have hz := hI.2.1.1
  have w := frame_eq hI.2.1.2 120 121 (p := (0, u)) (p' := (0, tv)) (FI_0 (rCopy X1 X0) rw) rfl (Nat.zero_le z) (by show z - 0 ≤ 120; omega) (by show z - 0 < 121; omega)
  generalize hW : qFrame L z 120 (rDrop (rCopy X1 X0)) (0, u) = W at w
  generalize hM : mqFrame L z 121 (mBeg rw) (0, tv) = M at w
  rcases w with ⟨w1, w2, w3⟩ | ⟨w1, w2, o', w3⟩
  · have hf : ¬ M.1 = -9 := by rw [w2]; exact no_9 (by omega)
    exact ST_mk ⟨Nat.le_of_ble_eq_true rfl, Nat.le_of_ble_eq_true rfl, rfl, rfl⟩ ⟨Nat.le_of_ble_eq_true rfl, Nat.le_of_ble_eq_true rfl, rfl, rfl⟩ (c_X8_frames_fail V ad X0 X1 X2 X3 X4 Hs L z b c d u lt sv A B x s kp U Y n o m k hI.okC W hW (by rw [w1]; exact Bool.false_ne_true)) (c_X9_frames_fail V ad2 nw rw ps im kp L sw svv da co pl me fa ao al ax ta ts tv il s z k n o m hI.okM M hM hf) (by rw [w2]) ⟨X0, W.2.1, X2, X3, X4, Hs, L, z, nI (tX L z W.2.2.1), nI (tP L z W.2.2.1), tK L z W.2.2.1, tV L z W.2.2.1 W.2.2.2, lt, sv, A, B, x, s, kp, U, Y, nw, M.2.1, ps, im, sw, svv, da, co, pl, me, fa, ao, al, nI (tX L z M.2.2.1), nI (tP L z M.2.2.1), mK L z M.2.2.1, mV L z M.2.2.1 M.2.2.2, il, k, n, o, m, v, rfl, rfl, hI⟩
  · have g0 := frame_rq hI.1.1 w3
    have g : RQ (rCopy X0 W.2.1) (mFrm M.2.1 nw) n o' m v := RQ_copy g0
    have e : W.2.1 5 1 = (mFrm M.2.1 nw) 3 := by rw [g0.1.2.1.1, g0.1.2.1.2.1]
    have hl : rLm (rCopy X0 W.2.1) := by
      show ¬ W.2.1 5 2 < 1
      rw [w3.2.1 2 (by decide)]
      exact hI.1.2.2
    exact ST_mk ⟨Nat.le_of_ble_eq_true rfl, Nat.le_of_ble_eq_true rfl, rfl, rfl⟩ ⟨Nat.le_of_ble_eq_true rfl, Nat.le_of_ble_eq_true rfl, rfl, rfl⟩ (c_X8_frames_ok V ad X0 X1 X2 X3 X4 Hs L z b c d u lt sv A B x s kp U Y n o m k hI.okC W hW w1 g0.okB) (c_X9_frames_ok V ad2 nw rw ps im kp L sw svv da co pl me fa ao al ax ta ts tv il s z k n o m hI.okM M hM w2) e ⟨rCopy X0 W.2.1, W.2.1, X2, X3, X4, va_up Hs x (rCopy (Hs x) X0), L, 0, nI (tX L z W.2.2.1), nI (tP L z W.2.2.1), tK L z W.2.2.1, tV L z W.2.2.1 W.2.2.2, lt, sv, A, B, (x + 1) % 6, hsz s, kp, U, Y, mFrm M.2.1 nw, M.2.1, mNo nw ps s, im, sw, svv, da, co, pl, me, fa, ao, al, nI (tX L z M.2.2.1), nI (tP L z M.2.2.1), mK L z M.2.2.1, mV L z M.2.2.1 M.2.2.2, il, k, n, o', m, v, rfl, rfl, IV_text (IV_push hI ⟨g, hI.1.2.1, hl⟩) (by decide) okL_0⟩
