/-! One step a method -/
set_option maxRecDepth 100000 in
set_option maxHeartbeats 4000000 in
theorem st_drive {V : VT} {ad : Nat → Nat → Nat} {ad2 : Nat → Nat} {CW MW : va_W} (hJ : JX V ad ad2 CW MW) (l w : Int32) : ST V ad ad2 yX8_drive cX8_drive 3 yX9_drive cX9_drive 3 [.int l, .int w] CW MW := by
  obtain ⟨X0, X1, X2, X3, X4, Hs, L, z, b, c, d, u, lt, sv, A, B, x, s, kp, U, Y, nw, rw, ps, im, sw, svv, da, co, pl, me, fa, ao, al, ax, ta, ts, tv, il, k, n, o, m, v, rfl, rfl, hI⟩ := hJ
  have hn6 := hI.1.1.1.1.2.2
  have hdc := hI.1.1.1.1
  have bc : l < 0 ∨ nI n ≤ l → ¬ (¬ l < 0 ∧ ¬ X0 5 0 ≤ l) := fun h => by rw [hdc.1]; exact bad_c h
  have bm : l < 0 ∨ nI n ≤ l → ¬ (¬ l < 0 ∧ ¬ nw 0 - 1 < l) := fun h => by rw [hdc.2.1]; exact bad_m (by omega) h
  rcases pk_ix l (n := n) (by omega) with h | h | ⟨q, hq, hl⟩
  · exact ST_mk ⟨Nat.le_of_ble_eq_true rfl, Nat.le_of_ble_eq_true rfl, rfl, rfl⟩ ⟨Nat.le_of_ble_eq_true rfl, Nat.le_of_ble_eq_true rfl, rfl, rfl⟩ (c_X8_drive_bad V ad X0 X1 X2 X3 X4 Hs L z b c d u lt sv A B x s kp U Y n o m k hI.okC l w (fun g => bc (Or.inl h) g.1)) (c_X9_drive_bad V ad2 nw rw ps im kp L sw svv da co pl me fa ao al ax ta ts tv il s z k n o m hI.okM l w (fun g => bm (Or.inl h) g.1)) rfl ⟨X0, X1, X2, X3, X4, Hs, L, z, b, c, d, u, lt, sv, A, B, x, s, kp, U, Y, nw, rw, ps, im, sw, svv, da, co, pl, me, fa, ao, al, ax, ta, ts, tv, il, k, n, o, m, v, rfl, rfl, hI⟩
  · exact ST_mk ⟨Nat.le_of_ble_eq_true rfl, Nat.le_of_ble_eq_true rfl, rfl, rfl⟩ ⟨Nat.le_of_ble_eq_true rfl, Nat.le_of_ble_eq_true rfl, rfl, rfl⟩ (c_X8_drive_bad V ad X0 X1 X2 X3 X4 Hs L z b c d u lt sv A B x s kp U Y n o m k hI.okC l w (fun g => bc (Or.inr h) g.1)) (c_X9_drive_bad V ad2 nw rw ps im kp L sw svv da co pl me fa ao al ax ta ts tv il s z k n o m hI.okM l w (fun g => bm (Or.inr h) g.1)) rfl ⟨X0, X1, X2, X3, X4, Hs, L, z, b, c, d, u, lt, sv, A, B, x, s, kp, U, Y, nw, rw, ps, im, sw, svv, da, co, pl, me, fa, ao, al, ax, ta, ts, tv, il, k, n, o, m, v, rfl, rfl, hI⟩
  · rcases pk_ix w (n := 10) (by omega) with h | h | ⟨t, ht, hw⟩
    · exact ST_mk ⟨Nat.le_of_ble_eq_true rfl, Nat.le_of_ble_eq_true rfl, rfl, rfl⟩ ⟨Nat.le_of_ble_eq_true rfl, Nat.le_of_ble_eq_true rfl, rfl, rfl⟩ (c_X8_drive_bad V ad X0 X1 X2 X3 X4 Hs L z b c d u lt sv A B x s kp U Y n o m k hI.okC l w (fun g => g.2.1 h)) (c_X9_drive_bad V ad2 nw rw ps im kp L sw svv da co pl me fa ao al ax ta ts tv il s z k n o m hI.okM l w (fun g => g.2.1 h)) rfl ⟨X0, X1, X2, X3, X4, Hs, L, z, b, c, d, u, lt, sv, A, B, x, s, kp, U, Y, nw, rw, ps, im, sw, svv, da, co, pl, me, fa, ao, al, ax, ta, ts, tv, il, k, n, o, m, v, rfl, rfl, hI⟩
    · have h' : 9 < w := Int32.lt_of_lt_of_le (by decide) h
      have h2 : ¬ w ≤ 9 := Int32.not_le.mpr h'
      exact ST_mk ⟨Nat.le_of_ble_eq_true rfl, Nat.le_of_ble_eq_true rfl, rfl, rfl⟩ ⟨Nat.le_of_ble_eq_true rfl, Nat.le_of_ble_eq_true rfl, rfl, rfl⟩ (c_X8_drive_bad V ad X0 X1 X2 X3 X4 Hs L z b c d u lt sv A B x s kp U Y n o m k hI.okC l w (fun g => h2 g.2.2)) (c_X9_drive_bad V ad2 nw rw ps im kp L sw svv da co pl me fa ao al ax ta ts tv il s z k n o m hI.okM l w (fun g => g.2.2 h')) rfl ⟨X0, X1, X2, X3, X4, Hs, L, z, b, c, d, u, lt, sv, A, B, x, s, kp, U, Y, nw, rw, ps, im, sw, svv, da, co, pl, me, fa, ao, al, ax, ta, ts, tv, il, k, n, o, m, v, rfl, rfl, hI⟩
    · by_cases h9 : t = 9
      · exact ST_mk ⟨Nat.le_of_ble_eq_true rfl, Nat.le_of_ble_eq_true rfl, rfl, rfl⟩ ⟨Nat.le_of_ble_eq_true rfl, Nat.le_of_ble_eq_true rfl, rfl, rfl⟩ (c_X8_drive_nine V ad X0 X1 X2 X3 X4 Hs L z b c d u lt sv A B x s kp U Y n o m k hI.okC l w q t hl hq hw h9) (c_X9_drive_nine V ad2 nw rw ps im kp L sw svv da co pl me fa ao al ax ta ts tv il s z k n o m hI.okM l w q t hl hq hw h9) (off_eq hI.1.1 hq) ⟨X0, X1, X2, X3, X4, Hs, L, z, b, c, d, u, lt, sv, A, B, x, s, kp, U, Y, nw, rw, ps, im, sw, svv, da, co, pl, me, fa, ao, al, ax, ta, ts, tv, il, k, n, o, m, v, rfl, rfl, hI⟩
      · exact ST_mk ⟨Nat.le_of_ble_eq_true rfl, Nat.le_of_ble_eq_true rfl, rfl, rfl⟩ ⟨Nat.le_of_ble_eq_true rfl, Nat.le_of_ble_eq_true rfl, rfl, rfl⟩ (c_X8_drive_ok V ad X0 X1 X2 X3 X4 Hs L z b c d u lt sv A B x s kp U Y n o m k hI.okC l w q t hl hq hw (by omega)) (c_X9_drive_ok V ad2 nw rw ps im kp L sw svv da co pl me fa ao al ax ta ts tv il s z k n o m hI.okM l w q t hl hq hw (by omega)) ((hI.1.1.2.2.1 q hq).1 t (by omega)).symm ⟨X0, X1, X2, X3, X4, Hs, L, z, b, c, d, u, lt, sv, A, B, x, s, kp, U, Y, nw, rw, ps, im, sw, svv, da, co, pl, me, fa, ao, al, ax, ta, ts, tv, il, k, n, o, m, v, rfl, rfl, hI⟩
set_option maxRecDepth 100000 in
set_option maxHeartbeats 4000000 in
theorem st_link {V : VT} {ad : Nat → Nat → Nat} {ad2 : Nat → Nat} {CW MW : va_W} (hJ : JX V ad ad2 CW MW) (l w : Int32) : ST V ad ad2 yX8_link cX8_link 3 yX9_link cX9_link 3 [.int l, .int w] CW MW := by
  obtain ⟨X0, X1, X2, X3, X4, Hs, L, z, b, c, d, u, lt, sv, A, B, x, s, kp, U, Y, nw, rw, ps, im, sw, svv, da, co, pl, me, fa, ao, al, ax, ta, ts, tv, il, k, n, o, m, v, rfl, rfl, hI⟩ := hJ
  have hm7 := hI.1.1.1.m7
  have hlc := hI.1.1.links
  have bc : l < 0 ∨ nI m ≤ l → ¬ (¬ l < 0 ∧ ¬ rLinks X0 ≤ l) := fun h => by rw [hlc.1]; exact bad_c h
  have bm : l < 0 ∨ nI m ≤ l → ¬ (¬ l < 0 ∧ ¬ nw 0 + nw 1 - 1 < l) := fun h => by rw [hlc.2]; exact bad_m (by omega) h
  rcases pk_ix l (n := m) (by omega) with h | h | ⟨q, hq, hl⟩
  · exact ST_mk ⟨Nat.le_of_ble_eq_true rfl, Nat.le_of_ble_eq_true rfl, rfl, rfl⟩ ⟨Nat.le_of_ble_eq_true rfl, Nat.le_of_ble_eq_true rfl, rfl, rfl⟩ (c_X8_link_bad V ad X0 X1 X2 X3 X4 Hs L z b c d u lt sv A B x s kp U Y n o m k hI.okC l w (fun g => bc (Or.inl h) g.1)) (c_X9_link_bad V ad2 nw rw ps im kp L sw svv da co pl me fa ao al ax ta ts tv il s z k n o m hI.okM l w (fun g => bm (Or.inl h) g.1)) rfl ⟨X0, X1, X2, X3, X4, Hs, L, z, b, c, d, u, lt, sv, A, B, x, s, kp, U, Y, nw, rw, ps, im, sw, svv, da, co, pl, me, fa, ao, al, ax, ta, ts, tv, il, k, n, o, m, v, rfl, rfl, hI⟩
  · exact ST_mk ⟨Nat.le_of_ble_eq_true rfl, Nat.le_of_ble_eq_true rfl, rfl, rfl⟩ ⟨Nat.le_of_ble_eq_true rfl, Nat.le_of_ble_eq_true rfl, rfl, rfl⟩ (c_X8_link_bad V ad X0 X1 X2 X3 X4 Hs L z b c d u lt sv A B x s kp U Y n o m k hI.okC l w (fun g => bc (Or.inr h) g.1)) (c_X9_link_bad V ad2 nw rw ps im kp L sw svv da co pl me fa ao al ax ta ts tv il s z k n o m hI.okM l w (fun g => bm (Or.inr h) g.1)) rfl ⟨X0, X1, X2, X3, X4, Hs, L, z, b, c, d, u, lt, sv, A, B, x, s, kp, U, Y, nw, rw, ps, im, sw, svv, da, co, pl, me, fa, ao, al, ax, ta, ts, tv, il, k, n, o, m, v, rfl, rfl, hI⟩
  · rcases pk_ix w (n := 2) (by omega) with h | h | ⟨t, ht, hw⟩
    · exact ST_mk ⟨Nat.le_of_ble_eq_true rfl, Nat.le_of_ble_eq_true rfl, rfl, rfl⟩ ⟨Nat.le_of_ble_eq_true rfl, Nat.le_of_ble_eq_true rfl, rfl, rfl⟩ (c_X8_link_bad V ad X0 X1 X2 X3 X4 Hs L z b c d u lt sv A B x s kp U Y n o m k hI.okC l w (fun g => g.2.1 h)) (c_X9_link_bad V ad2 nw rw ps im kp L sw svv da co pl me fa ao al ax ta ts tv il s z k n o m hI.okM l w (fun g => g.2.1 h)) rfl ⟨X0, X1, X2, X3, X4, Hs, L, z, b, c, d, u, lt, sv, A, B, x, s, kp, U, Y, nw, rw, ps, im, sw, svv, da, co, pl, me, fa, ao, al, ax, ta, ts, tv, il, k, n, o, m, v, rfl, rfl, hI⟩
    · have h' : 1 < w := Int32.lt_of_lt_of_le (by decide) h
      have h2 : ¬ w < 2 := Int32.not_lt.mpr h
      exact ST_mk ⟨Nat.le_of_ble_eq_true rfl, Nat.le_of_ble_eq_true rfl, rfl, rfl⟩ ⟨Nat.le_of_ble_eq_true rfl, Nat.le_of_ble_eq_true rfl, rfl, rfl⟩ (c_X8_link_bad V ad X0 X1 X2 X3 X4 Hs L z b c d u lt sv A B x s kp U Y n o m k hI.okC l w (fun g => h2 g.2.2)) (c_X9_link_bad V ad2 nw rw ps im kp L sw svv da co pl me fa ao al ax ta ts tv il s z k n o m hI.okM l w (fun g => g.2.2 h')) rfl ⟨X0, X1, X2, X3, X4, Hs, L, z, b, c, d, u, lt, sv, A, B, x, s, kp, U, Y, nw, rw, ps, im, sw, svv, da, co, pl, me, fa, ao, al, ax, ta, ts, tv, il, k, n, o, m, v, rfl, rfl, hI⟩
    · have hl2 := hI.1.1.lc.2 q hq
      rcases (by omega : t = 0 ∨ t = 1) with rfl | rfl
      · exact ST_mk ⟨Nat.le_of_ble_eq_true rfl, Nat.le_of_ble_eq_true rfl, rfl, rfl⟩ ⟨Nat.le_of_ble_eq_true rfl, Nat.le_of_ble_eq_true rfl, rfl, rfl⟩ (c_X8_link_ok V ad X0 X1 X2 X3 X4 Hs L z b c d u lt sv A B x s kp U Y n o m k hI.okC l w q 0 hl hq hw (by decide)) (c_X9_link_len V ad2 nw rw ps im kp L sw svv da co pl me fa ao al ax ta ts tv il s z k n o m hI.okM l w q 0 hl hq hw rfl) hl2.1.symm ⟨X0, X1, X2, X3, X4, Hs, L, z, b, c, d, u, lt, sv, A, B, x, s, kp, U, Y, nw, rw, ps, im, sw, svv, da, co, pl, me, fa, ao, al, ax, ta, ts, tv, il, k, n, o, m, v, rfl, rfl, hI⟩
      · have e : X0 1 (q * 2 + 1) = bI (hasB (nw 16) q) := by
          have c := hI.1.1.lc.cut hm7.1 hq
          rw [hl2.2]
          by_cases y : v.testBit q = true
          · rw [if_pos y]; exact bI_t (c.2.mpr y)
          · rw [if_neg y]; exact bI_f (fun g => y (c.2.mp g))
        exact ST_mk ⟨Nat.le_of_ble_eq_true rfl, Nat.le_of_ble_eq_true rfl, rfl, rfl⟩ ⟨Nat.le_of_ble_eq_true rfl, Nat.le_of_ble_eq_true rfl, rfl, rfl⟩ (c_X8_link_ok V ad X0 X1 X2 X3 X4 Hs L z b c d u lt sv A B x s kp U Y n o m k hI.okC l w q 1 hl hq hw (by decide)) (c_X9_link_cut V ad2 nw rw ps im kp L sw svv da co pl me fa ao al ax ta ts tv il s z k n o m hI.okM l w q 1 hl hq hw rfl) e ⟨X0, X1, X2, X3, X4, Hs, L, z, b, c, d, u, lt, sv, A, B, x, s, kp, U, Y, nw, rw, ps, im, sw, svv, da, co, pl, me, fa, ao, al, ax, ta, ts, tv, il, k, n, o, m, v, rfl, rfl, hI⟩
set_option maxRecDepth 100000 in
set_option maxHeartbeats 4000000 in
theorem st_order {V : VT} {ad : Nat → Nat → Nat} {ad2 : Nat → Nat} {CW MW : va_W} (hJ : JX V ad ad2 CW MW) (l w : Int32) : ST V ad ad2 yX8_order cX8_order 3 yX9_order cX9_order 3 [.int l, .int w] CW MW := by
  obtain ⟨X0, X1, X2, X3, X4, Hs, L, z, b, c, d, u, lt, sv, A, B, x, s, kp, U, Y, nw, rw, ps, im, sw, svv, da, co, pl, me, fa, ao, al, ax, ta, ts, tv, il, k, n, o, m, v, rfl, rfl, hI⟩ := hJ
  have ho4 := hI.1.1.1.2.1.2.2
  have hoc := hI.1.1.1.2.1
  have bc : l < 0 ∨ nI o ≤ l → ¬ (¬ l < 0 ∧ ¬ X0 5 1 ≤ l) := fun h => by rw [hoc.1]; exact bad_c h
  have bm : l < 0 ∨ nI o ≤ l → ¬ (¬ l < 0 ∧ ¬ nw 3 - 1 < l) := fun h => by rw [hoc.2.1]; exact bad_m (by omega) h
  rcases pk_ix l (n := o) (by omega) with h | h | ⟨q, hq, hl⟩
  · exact ST_mk ⟨Nat.le_of_ble_eq_true rfl, Nat.le_of_ble_eq_true rfl, rfl, rfl⟩ ⟨Nat.le_of_ble_eq_true rfl, Nat.le_of_ble_eq_true rfl, rfl, rfl⟩ (c_X8_order_bad V ad X0 X1 X2 X3 X4 Hs L z b c d u lt sv A B x s kp U Y n o m k hI.okC l w (fun g => bc (Or.inl h) g.1)) (c_X9_order_bad V ad2 nw rw ps im kp L sw svv da co pl me fa ao al ax ta ts tv il s z k n o m hI.okM l w (fun g => bm (Or.inl h) g.1)) rfl ⟨X0, X1, X2, X3, X4, Hs, L, z, b, c, d, u, lt, sv, A, B, x, s, kp, U, Y, nw, rw, ps, im, sw, svv, da, co, pl, me, fa, ao, al, ax, ta, ts, tv, il, k, n, o, m, v, rfl, rfl, hI⟩
  · exact ST_mk ⟨Nat.le_of_ble_eq_true rfl, Nat.le_of_ble_eq_true rfl, rfl, rfl⟩ ⟨Nat.le_of_ble_eq_true rfl, Nat.le_of_ble_eq_true rfl, rfl, rfl⟩ (c_X8_order_bad V ad X0 X1 X2 X3 X4 Hs L z b c d u lt sv A B x s kp U Y n o m k hI.okC l w (fun g => bc (Or.inr h) g.1)) (c_X9_order_bad V ad2 nw rw ps im kp L sw svv da co pl me fa ao al ax ta ts tv il s z k n o m hI.okM l w (fun g => bm (Or.inr h) g.1)) rfl ⟨X0, X1, X2, X3, X4, Hs, L, z, b, c, d, u, lt, sv, A, B, x, s, kp, U, Y, nw, rw, ps, im, sw, svv, da, co, pl, me, fa, ao, al, ax, ta, ts, tv, il, k, n, o, m, v, rfl, rfl, hI⟩
  · rcases pk_ix w (n := 5) (by omega) with h | h | ⟨t, ht, hw⟩
    · exact ST_mk ⟨Nat.le_of_ble_eq_true rfl, Nat.le_of_ble_eq_true rfl, rfl, rfl⟩ ⟨Nat.le_of_ble_eq_true rfl, Nat.le_of_ble_eq_true rfl, rfl, rfl⟩ (c_X8_order_bad V ad X0 X1 X2 X3 X4 Hs L z b c d u lt sv A B x s kp U Y n o m k hI.okC l w (fun g => g.2.1 h)) (c_X9_order_bad V ad2 nw rw ps im kp L sw svv da co pl me fa ao al ax ta ts tv il s z k n o m hI.okM l w (fun g => g.2.1 h)) rfl ⟨X0, X1, X2, X3, X4, Hs, L, z, b, c, d, u, lt, sv, A, B, x, s, kp, U, Y, nw, rw, ps, im, sw, svv, da, co, pl, me, fa, ao, al, ax, ta, ts, tv, il, k, n, o, m, v, rfl, rfl, hI⟩
    · have h' : 4 < w := Int32.lt_of_lt_of_le (by decide) h
      have h2 : ¬ w < 5 := Int32.not_lt.mpr h
      exact ST_mk ⟨Nat.le_of_ble_eq_true rfl, Nat.le_of_ble_eq_true rfl, rfl, rfl⟩ ⟨Nat.le_of_ble_eq_true rfl, Nat.le_of_ble_eq_true rfl, rfl, rfl⟩ (c_X8_order_bad V ad X0 X1 X2 X3 X4 Hs L z b c d u lt sv A B x s kp U Y n o m k hI.okC l w (fun g => h2 g.2.2)) (c_X9_order_bad V ad2 nw rw ps im kp L sw svv da co pl me fa ao al ax ta ts tv il s z k n o m hI.okM l w (fun g => g.2.2 h')) rfl ⟨X0, X1, X2, X3, X4, Hs, L, z, b, c, d, u, lt, sv, A, B, x, s, kp, U, Y, nw, rw, ps, im, sw, svv, da, co, pl, me, fa, ao, al, ax, ta, ts, tv, il, k, n, o, m, v, rfl, rfl, hI⟩
    · exact ST_mk ⟨Nat.le_of_ble_eq_true rfl, Nat.le_of_ble_eq_true rfl, rfl, rfl⟩ ⟨Nat.le_of_ble_eq_true rfl, Nat.le_of_ble_eq_true rfl, rfl, rfl⟩ (c_X8_order_ok V ad X0 X1 X2 X3 X4 Hs L z b c d u lt sv A B x s kp U Y n o m k hI.okC l w q t hl hq hw ht) (c_X9_order_ok V ad2 nw rw ps im kp L sw svv da co pl me fa ao al ax ta ts tv il s z k n o m hI.okM l w q t hl hq hw ht) ((hI.1.1.2.2.2.1 q hq).1 t ht).symm ⟨X0, X1, X2, X3, X4, Hs, L, z, b, c, d, u, lt, sv, A, B, x, s, kp, U, Y, nw, rw, ps, im, sw, svv, da, co, pl, me, fa, ao, al, ax, ta, ts, tv, il, k, n, o, m, v, rfl, rfl, hI⟩
set_option maxRecDepth 100000 in
set_option maxHeartbeats 4000000 in
theorem st_result {V : VT} {ad : Nat → Nat → Nat} {ad2 : Nat → Nat} {CW MW : va_W} (hJ : JX V ad ad2 CW MW) (l w : Int32) : ST V ad ad2 yX8_result cX8_result 3 yX9_result cX9_result 3 [.int l, .int w] CW MW := by
  obtain ⟨X0, X1, X2, X3, X4, Hs, L, z, b, c, d, u, lt, sv, A, B, x, s, kp, U, Y, nw, rw, ps, im, sw, svv, da, co, pl, me, fa, ao, al, ax, ta, ts, tv, il, k, n, o, m, v, rfl, rfl, hI⟩ := hJ
  have ho4 := hI.1.1.1.2.1.2.2
  have hoc := hI.1.1.1.2.1
  have bc : l < 0 ∨ nI o ≤ l → ¬ (¬ l < 0 ∧ ¬ X0 5 1 ≤ l) := fun h => by rw [hoc.1]; exact bad_c h
  have bm : l < 0 ∨ nI o ≤ l → ¬ (¬ l < 0 ∧ ¬ nw 3 - 1 < l) := fun h => by rw [hoc.2.1]; exact bad_m (by omega) h
  rcases pk_ix l (n := o) (by omega) with h | h | ⟨q, hq, hl⟩
  · exact ST_mk ⟨Nat.le_of_ble_eq_true rfl, Nat.le_of_ble_eq_true rfl, rfl, rfl⟩ ⟨Nat.le_of_ble_eq_true rfl, Nat.le_of_ble_eq_true rfl, rfl, rfl⟩ (c_X8_result_bad V ad X0 X1 X2 X3 X4 Hs L z b c d u lt sv A B x s kp U Y n o m k hI.okC l w (fun g => bc (Or.inl h) g.1)) (c_X9_result_bad V ad2 nw rw ps im kp L sw svv da co pl me fa ao al ax ta ts tv il s z k n o m hI.okM l w (fun g => bm (Or.inl h) g.1)) rfl ⟨X0, X1, X2, X3, X4, Hs, L, z, b, c, d, u, lt, sv, A, B, x, s, kp, U, Y, nw, rw, ps, im, sw, svv, da, co, pl, me, fa, ao, al, ax, ta, ts, tv, il, k, n, o, m, v, rfl, rfl, hI⟩
  · exact ST_mk ⟨Nat.le_of_ble_eq_true rfl, Nat.le_of_ble_eq_true rfl, rfl, rfl⟩ ⟨Nat.le_of_ble_eq_true rfl, Nat.le_of_ble_eq_true rfl, rfl, rfl⟩ (c_X8_result_bad V ad X0 X1 X2 X3 X4 Hs L z b c d u lt sv A B x s kp U Y n o m k hI.okC l w (fun g => bc (Or.inr h) g.1)) (c_X9_result_bad V ad2 nw rw ps im kp L sw svv da co pl me fa ao al ax ta ts tv il s z k n o m hI.okM l w (fun g => bm (Or.inr h) g.1)) rfl ⟨X0, X1, X2, X3, X4, Hs, L, z, b, c, d, u, lt, sv, A, B, x, s, kp, U, Y, nw, rw, ps, im, sw, svv, da, co, pl, me, fa, ao, al, ax, ta, ts, tv, il, k, n, o, m, v, rfl, rfl, hI⟩
  · rcases pk_ix w (n := 2) (by omega) with h | h | ⟨t, ht, hw⟩
    · exact ST_mk ⟨Nat.le_of_ble_eq_true rfl, Nat.le_of_ble_eq_true rfl, rfl, rfl⟩ ⟨Nat.le_of_ble_eq_true rfl, Nat.le_of_ble_eq_true rfl, rfl, rfl⟩ (c_X8_result_bad V ad X0 X1 X2 X3 X4 Hs L z b c d u lt sv A B x s kp U Y n o m k hI.okC l w (fun g => g.2.1 h)) (c_X9_result_bad V ad2 nw rw ps im kp L sw svv da co pl me fa ao al ax ta ts tv il s z k n o m hI.okM l w (fun g => g.2.1 h)) rfl ⟨X0, X1, X2, X3, X4, Hs, L, z, b, c, d, u, lt, sv, A, B, x, s, kp, U, Y, nw, rw, ps, im, sw, svv, da, co, pl, me, fa, ao, al, ax, ta, ts, tv, il, k, n, o, m, v, rfl, rfl, hI⟩
    · have h' : 1 < w := Int32.lt_of_lt_of_le (by decide) h
      have h2 : ¬ w < 2 := Int32.not_lt.mpr h
      exact ST_mk ⟨Nat.le_of_ble_eq_true rfl, Nat.le_of_ble_eq_true rfl, rfl, rfl⟩ ⟨Nat.le_of_ble_eq_true rfl, Nat.le_of_ble_eq_true rfl, rfl, rfl⟩ (c_X8_result_bad V ad X0 X1 X2 X3 X4 Hs L z b c d u lt sv A B x s kp U Y n o m k hI.okC l w (fun g => h2 g.2.2)) (c_X9_result_bad V ad2 nw rw ps im kp L sw svv da co pl me fa ao al ax ta ts tv il s z k n o m hI.okM l w (fun g => g.2.2 h')) rfl ⟨X0, X1, X2, X3, X4, Hs, L, z, b, c, d, u, lt, sv, A, B, x, s, kp, U, Y, nw, rw, ps, im, sw, svv, da, co, pl, me, fa, ao, al, ax, ta, ts, tv, il, k, n, o, m, v, rfl, rfl, hI⟩
    · have e4 : nw 4 = X0 5 5 := hI.1.1.1.2.2.2.1.2.1
      rcases hI.1.1.1.2.2.2.2.1 with y | y
      · exact ST_mk ⟨Nat.le_of_ble_eq_true rfl, Nat.le_of_ble_eq_true rfl, rfl, rfl⟩ ⟨Nat.le_of_ble_eq_true rfl, Nat.le_of_ble_eq_true rfl, rfl, rfl⟩ (c_X8_result_none V ad X0 X1 X2 X3 X4 Hs L z b c d u lt sv A B x s kp U Y n o m k hI.okC l w q t hl hq hw ht y) (c_X9_result_none V ad2 nw rw ps im kp L sw svv da co pl me fa ao al ax ta ts tv il s z k n o m hI.okM l w q t hl hq hw ht (by rw [e4, y]; decide)) rfl ⟨X0, X1, X2, X3, X4, Hs, L, z, b, c, d, u, lt, sv, A, B, x, s, kp, U, Y, nw, rw, ps, im, sw, svv, da, co, pl, me, fa, ao, al, ax, ta, ts, tv, il, k, n, o, m, v, rfl, rfl, hI⟩
      · exact ST_mk ⟨Nat.le_of_ble_eq_true rfl, Nat.le_of_ble_eq_true rfl, rfl, rfl⟩ ⟨Nat.le_of_ble_eq_true rfl, Nat.le_of_ble_eq_true rfl, rfl, rfl⟩ (c_X8_result_ok V ad X0 X1 X2 X3 X4 Hs L z b c d u lt sv A B x s kp U Y n o m k hI.okC l w q t hl hq hw ht (by rw [y]; decide)) (c_X9_result_ok V ad2 nw rw ps im kp L sw svv da co pl me fa ao al ax ta ts tv il s z k n o m hI.okM l w q t hl hq hw ht (by rw [e4]; exact y)) (hI.1.1.2.2.2.2 y q hq t ht).symm ⟨X0, X1, X2, X3, X4, Hs, L, z, b, c, d, u, lt, sv, A, B, x, s, kp, U, Y, nw, rw, ps, im, sw, svv, da, co, pl, me, fa, ao, al, ax, ta, ts, tv, il, k, n, o, m, v, rfl, rfl, hI⟩
set_option maxRecDepth 100000 in
set_option maxHeartbeats 4000000 in
theorem st_time {V : VT} {ad : Nat → Nat → Nat} {ad2 : Nat → Nat} {CW MW : va_W} (hJ : JX V ad ad2 CW MW) (l : Int32) : ST V ad ad2 yX8_time cX8_time 2 yX9_time cX9_time 2 [.int l] CW MW := by
  obtain ⟨X0, X1, X2, X3, X4, Hs, L, z, b, c, d, u, lt, sv, A, B, x, s, kp, U, Y, nw, rw, ps, im, sw, svv, da, co, pl, me, fa, ao, al, ax, ta, ts, tv, il, k, n, o, m, v, rfl, rfl, hI⟩ := hJ
  rcases pk_ix l (n := 2) (by omega) with h | h | ⟨q, hq, hl⟩
  · exact ST_mk ⟨Nat.le_of_ble_eq_true rfl, Nat.le_of_ble_eq_true rfl, rfl, rfl⟩ ⟨Nat.le_of_ble_eq_true rfl, Nat.le_of_ble_eq_true rfl, rfl, rfl⟩ (c_X8_time_bad V ad X0 X1 X2 X3 X4 Hs L z b c d u lt sv A B x s kp U Y n o m k hI.okC l (fun g => g.1 h)) (c_X9_time_bad V ad2 nw rw ps im kp L sw svv da co pl me fa ao al ax ta ts tv il s z k n o m hI.okM l (fun g => g.1 h)) rfl ⟨X0, X1, X2, X3, X4, Hs, L, z, b, c, d, u, lt, sv, A, B, x, s, kp, U, Y, nw, rw, ps, im, sw, svv, da, co, pl, me, fa, ao, al, ax, ta, ts, tv, il, k, n, o, m, v, rfl, rfl, hI⟩
  · have h' : 1 < l := Int32.lt_of_lt_of_le (by decide) h
    have h2 : ¬ l < 2 := Int32.not_lt.mpr h
    exact ST_mk ⟨Nat.le_of_ble_eq_true rfl, Nat.le_of_ble_eq_true rfl, rfl, rfl⟩ ⟨Nat.le_of_ble_eq_true rfl, Nat.le_of_ble_eq_true rfl, rfl, rfl⟩ (c_X8_time_bad V ad X0 X1 X2 X3 X4 Hs L z b c d u lt sv A B x s kp U Y n o m k hI.okC l (fun g => h2 g.2)) (c_X9_time_bad V ad2 nw rw ps im kp L sw svv da co pl me fa ao al ax ta ts tv il s z k n o m hI.okM l (fun g => g.2 h')) rfl ⟨X0, X1, X2, X3, X4, Hs, L, z, b, c, d, u, lt, sv, A, B, x, s, kp, U, Y, nw, rw, ps, im, sw, svv, da, co, pl, me, fa, ao, al, ax, ta, ts, tv, il, k, n, o, m, v, rfl, rfl, hI⟩
  · have e : X0 4 q = nw (5 + q) := by
      have e5 : nw 5 = X0 4 0 := hI.1.1.1.2.2.2.1.2.2.2.2.1
      have e6 : nw 6 = X0 4 1 := hI.1.1.1.2.2.2.1.2.2.2.2.2
      rcases (by omega : q = 0 ∨ q = 1) with rfl | rfl
      · exact e5.symm
      · exact e6.symm
    exact ST_mk ⟨Nat.le_of_ble_eq_true rfl, Nat.le_of_ble_eq_true rfl, rfl, rfl⟩ ⟨Nat.le_of_ble_eq_true rfl, Nat.le_of_ble_eq_true rfl, rfl, rfl⟩ (c_X8_time_ok V ad X0 X1 X2 X3 X4 Hs L z b c d u lt sv A B x s kp U Y n o m k hI.okC l q hl hq) (c_X9_time_ok V ad2 nw rw ps im kp L sw svv da co pl me fa ao al ax ta ts tv il s z k n o m hI.okM l q hl hq) e ⟨X0, X1, X2, X3, X4, Hs, L, z, b, c, d, u, lt, sv, A, B, x, s, kp, U, Y, nw, rw, ps, im, sw, svv, da, co, pl, me, fa, ao, al, ax, ta, ts, tv, il, k, n, o, m, v, rfl, rfl, hI⟩
set_option maxRecDepth 100000 in
set_option maxHeartbeats 4000000 in
theorem st_reached {V : VT} {ad : Nat → Nat → Nat} {ad2 : Nat → Nat} {CW MW : va_W} (hJ : JX V ad ad2 CW MW) (l : Int32) : ST V ad ad2 yX8_reached cX8_reached 2 yX9_reached cX9_reached 4 [.int l] CW MW := by
  obtain ⟨X0, X1, X2, X3, X4, Hs, L, z, b, c, d, u, lt, sv, A, B, x, s, kp, U, Y, nw, rw, ps, im, sw, svv, da, co, pl, me, fa, ao, al, ax, ta, ts, tv, il, k, n, o, m, v, rfl, rfl, hI⟩ := hJ
  rcases pk_ix l (n := 2) (by omega) with h | h | ⟨q, hq, hl⟩
  · exact ST_mk ⟨Nat.le_of_ble_eq_true rfl, Nat.le_of_ble_eq_true rfl, rfl, rfl⟩ ⟨Nat.le_of_ble_eq_true rfl, Nat.le_of_ble_eq_true rfl, rfl, rfl⟩ (c_X8_reached_bad V ad X0 X1 X2 X3 X4 Hs L z b c d u lt sv A B x s kp U Y n o m k hI.okC l (fun g => g.1 h)) (c_X9_reached_bad V ad2 nw rw ps im kp L sw svv da co pl me fa ao al ax ta ts tv il s z k n o m hI.okM l (fun g => g.1 h)) rfl ⟨X0, X1, X2, X3, X4, Hs, L, z, b, c, d, u, lt, sv, A, B, x, s, kp, U, Y, nw, rw, ps, im, sw, svv, da, co, pl, me, fa, ao, al, ax, ta, ts, tv, il, k, n, o, m, v, rfl, rfl, hI⟩
  · have h' : 1 < l := Int32.lt_of_lt_of_le (by decide) h
    have h2 : ¬ l ≤ 1 := Int32.not_le.mpr h'
    exact ST_mk ⟨Nat.le_of_ble_eq_true rfl, Nat.le_of_ble_eq_true rfl, rfl, rfl⟩ ⟨Nat.le_of_ble_eq_true rfl, Nat.le_of_ble_eq_true rfl, rfl, rfl⟩ (c_X8_reached_bad V ad X0 X1 X2 X3 X4 Hs L z b c d u lt sv A B x s kp U Y n o m k hI.okC l (fun g => h2 g.2)) (c_X9_reached_bad V ad2 nw rw ps im kp L sw svv da co pl me fa ao al ax ta ts tv il s z k n o m hI.okM l (fun g => g.2 h')) rfl ⟨X0, X1, X2, X3, X4, Hs, L, z, b, c, d, u, lt, sv, A, B, x, s, kp, U, Y, nw, rw, ps, im, sw, svv, da, co, pl, me, fa, ao, al, ax, ta, ts, tv, il, k, n, o, m, v, rfl, rfl, hI⟩
  · have hm := hI.1.1.1.s3.m7
    have hE := eA_eq hI.1.1.lc hm.2.2 hm.2.1
    have hB := (sB_eq hI.1.1.1.s3 hI.1.1.lc).1
    have le2 := mB_le nw (nw 16) n
    rcases (by omega : q = 0 ∨ q = 1) with rfl | rfl
    · have e : ((1 : Int32) <<< (nI (eA X0 n) &&& 31)) - 1 = ((1 : Int32) <<< ((nI (mA (nw 16) n) - 1 + 1) &&& 31)) - 1 := by rw [hE, nI_up]
      exact ST_mk ⟨Nat.le_of_ble_eq_true rfl, Nat.le_of_ble_eq_true rfl, rfl, rfl⟩ ⟨Nat.le_of_ble_eq_true rfl, Nat.le_of_ble_eq_true rfl, rfl, rfl⟩ (c_X8_reached_A V ad X0 X1 X2 X3 X4 Hs L z b c d u lt sv A B x s kp U Y n o m k hI.okC l hl) (c_X9_reached_A V ad2 nw rw ps im kp L sw svv da co pl me fa ao al ax ta ts tv il s z k n o m hI.okM l hl) e ⟨X0, X1, X2, X3, X4, Hs, L, z, b, c, d, u, lt, sv, A, B, x, s, kp, U, Y, nw, rw, ps, im, sw, svv, da, co, pl, me, fa, ao, al, ax, ta, ts, tv, il, k, n, o, m, v, rfl, rfl, hI⟩
    · have e : ((1 : Int32) <<< (X0 5 0 &&& 31)) - ((1 : Int32) <<< (nI (sB X0 n) &&& 31)) = (((1 : Int32) <<< (nw 0 &&& 31)) - 1) &&& ((((1 : Int32) <<< (nI (mB nw (nw 16) n) &&& 31)) - 1) ^^^ (-1)) := by
        rw [hB, hI.1.1.1.1.1, hI.1.1.1.1.2.1]
        exact bw_rB n (by omega) (mB nw (nw 16) n) (by omega)
      exact ST_mk ⟨Nat.le_of_ble_eq_true rfl, Nat.le_of_ble_eq_true rfl, rfl, rfl⟩ ⟨Nat.le_of_ble_eq_true rfl, Nat.le_of_ble_eq_true rfl, rfl, rfl⟩ (c_X8_reached_B V ad X0 X1 X2 X3 X4 Hs L z b c d u lt sv A B x s kp U Y n o m k hI.okC l hl) (c_X9_reached_B V ad2 nw rw ps im kp L sw svv da co pl me fa ao al ax ta ts tv il s z k n o m hI.okM l hl) e ⟨X0, X1, X2, X3, X4, Hs, L, z, b, c, d, u, lt, sv, A, B, x, s, kp, U, Y, nw, rw, ps, im, sw, svv, da, co, pl, me, fa, ao, al, ax, ta, ts, tv, il, k, n, o, m, v, rfl, rfl, hI⟩
set_option maxRecDepth 100000 in
set_option maxHeartbeats 4000000 in
theorem st_would {V : VT} {ad : Nat → Nat → Nat} {ad2 : Nat → Nat} {CW MW : va_W} (hJ : JX V ad ad2 CW MW) (l : Int32) : ST V ad ad2 yX8_would cX8_would 2 yX9_would cX9_would 2 [.int l] CW MW := by
  obtain ⟨X0, X1, X2, X3, X4, Hs, L, z, b, c, d, u, lt, sv, A, B, x, s, kp, U, Y, nw, rw, ps, im, sw, svv, da, co, pl, me, fa, ao, al, ax, ta, ts, tv, il, k, n, o, m, v, rfl, rfl, hI⟩ := hJ
  rcases pk_ix l (n := 6) (by omega) with h | h | ⟨q, hq, hl⟩
  · exact ST_mk ⟨Nat.le_of_ble_eq_true rfl, Nat.le_of_ble_eq_true rfl, rfl, rfl⟩ ⟨Nat.le_of_ble_eq_true rfl, Nat.le_of_ble_eq_true rfl, rfl, rfl⟩ (c_X8_would_bad V ad X0 X1 X2 X3 X4 Hs L z b c d u lt sv A B x s kp U Y n o m k hI.okC l (fun g => g.1 h)) (c_X9_would_bad V ad2 nw rw ps im kp L sw svv da co pl me fa ao al ax ta ts tv il s z k n o m hI.okM l (fun g => g.1 h)) rfl ⟨X0, X1, X2, X3, X4, Hs, L, z, b, c, d, u, lt, sv, A, B, x, s, kp, U, Y, nw, rw, ps, im, sw, svv, da, co, pl, me, fa, ao, al, ax, ta, ts, tv, il, k, n, o, m, v, rfl, rfl, hI⟩
  · have h' : 5 < l := Int32.lt_of_lt_of_le (by decide) h
    have h2 : ¬ l < 6 := Int32.not_lt.mpr h
    exact ST_mk ⟨Nat.le_of_ble_eq_true rfl, Nat.le_of_ble_eq_true rfl, rfl, rfl⟩ ⟨Nat.le_of_ble_eq_true rfl, Nat.le_of_ble_eq_true rfl, rfl, rfl⟩ (c_X8_would_bad V ad X0 X1 X2 X3 X4 Hs L z b c d u lt sv A B x s kp U Y n o m k hI.okC l (fun g => h2 g.2)) (c_X9_would_bad V ad2 nw rw ps im kp L sw svv da co pl me fa ao al ax ta ts tv il s z k n o m hI.okM l (fun g => g.2 h')) rfl ⟨X0, X1, X2, X3, X4, Hs, L, z, b, c, d, u, lt, sv, A, B, x, s, kp, U, Y, nw, rw, ps, im, sw, svv, da, co, pl, me, fa, ao, al, ax, ta, ts, tv, il, k, n, o, m, v, rfl, rfl, hI⟩
  · have rc := RQ_copy (R := X2) hI.1.1
    have hf := facts_eq (x := sv) (R := rCopy X2 X0) (A := A) (B := B) (t := ((nw, da, co, pl, me), fa, ao)) (c := nw 16) rc.1 rc.lc rc.2.2.1 rc.2.2.2.1
    have hk : mS9 nw (mFF n o (nw 16) ((nw, da, co, pl, me), fa, ao)).1.1 := mFF_k (t := ((nw, da, co, pl, me), fa, ao))
    generalize hW : snd sv (rCopy X2 X0) A B n o m = W at hf
    generalize hM : mFF n o (nw 16) ((nw, da, co, pl, me), fa, ao) = M at hf hk
    exact ST_mk ⟨Nat.le_of_ble_eq_true rfl, Nat.le_of_ble_eq_true rfl, rfl, rfl⟩ ⟨Nat.le_of_ble_eq_true rfl, Nat.le_of_ble_eq_true rfl, rfl, rfl⟩ (c_X8_would_ok V ad X0 X1 X2 X3 X4 Hs L z b c d u lt sv A B x s kp U Y n o m k hI.okC l q W hW hl hq) (c_X9_would_ok V ad2 nw rw ps im kp L sw svv da co pl me fa ao al ax ta ts tv il s z k n o m hI.okM l q M hM hl hq) (hf q hq) ⟨X0, X1, W.2.2.1, X3, X4, Hs, L, z, b, c, d, u, lt, W.2.2.2, W.1, W.2.1, x, s, kp, U, Y, M.1.1, rw, ps, im, sw, svv, M.1.2.1, M.1.2.2.1, M.1.2.2.2.1, M.1.2.2.2.2, M.2.1, M.2.2, al, ax, ta, ts, tv, il, k, n, o, m, v, rfl, rfl, IV_row hI hk⟩
set_option maxRecDepth 100000 in
set_option maxHeartbeats 4000000 in
theorem st_sees {V : VT} {ad : Nat → Nat → Nat} {ad2 : Nat → Nat} {CW MW : va_W} (hJ : JX V ad ad2 CW MW) (l w : Int32) : ST V ad ad2 yX8_sees cX8_sees 4 yX9_sees cX9_sees 3 [.int l, .int w] CW MW := by
  obtain ⟨X0, X1, X2, X3, X4, Hs, L, z, b, c, d, u, lt, sv, A, B, x, s, kp, U, Y, nw, rw, ps, im, sw, svv, da, co, pl, me, fa, ao, al, ax, ta, ts, tv, il, k, n, o, m, v, rfl, rfl, hI⟩ := hJ
  have hk6 := hI.2.2.2.2.2.1
  have hk := hI.2.2.2.2.1
  have hu := hI.2.2.2.2
  rcases pk_ix l (n := 6) (by omega) with h | h | ⟨q, hq, hl⟩
  · exact ST_mk ⟨Nat.le_of_ble_eq_true rfl, Nat.le_of_ble_eq_true rfl, rfl, rfl⟩ ⟨Nat.le_of_ble_eq_true rfl, Nat.le_of_ble_eq_true rfl, rfl, rfl⟩ (c_X8_sees_bad V ad X0 X1 X2 X3 X4 Hs L z b c d u lt sv A B x s kp U Y n o m k hI.okC l w (fun g => g.1 h)) (c_X9_sees_bad V ad2 nw rw ps im kp L sw svv da co pl me fa ao al ax ta ts tv il s z k n o m hI.okM l w (fun g => g.1.1 h)) rfl ⟨X0, X1, X2, X3, X4, Hs, L, z, b, c, d, u, lt, sv, A, B, x, s, kp, U, Y, nw, rw, ps, im, sw, svv, da, co, pl, me, fa, ao, al, ax, ta, ts, tv, il, k, n, o, m, v, rfl, rfl, hI⟩
  · have h' : 5 < l := Int32.lt_of_lt_of_le (by decide) h
    exact ST_mk ⟨Nat.le_of_ble_eq_true rfl, Nat.le_of_ble_eq_true rfl, rfl, rfl⟩ ⟨Nat.le_of_ble_eq_true rfl, Nat.le_of_ble_eq_true rfl, rfl, rfl⟩ (c_X8_sees_bad V ad X0 X1 X2 X3 X4 Hs L z b c d u lt sv A B x s kp U Y n o m k hI.okC l w (fun g => g.2.1 h)) (c_X9_sees_bad V ad2 nw rw ps im kp L sw svv da co pl me fa ao al ax ta ts tv il s z k n o m hI.okM l w (fun g => g.1.2 h')) rfl ⟨X0, X1, X2, X3, X4, Hs, L, z, b, c, d, u, lt, sv, A, B, x, s, kp, U, Y, nw, rw, ps, im, sw, svv, da, co, pl, me, fa, ao, al, ax, ta, ts, tv, il, k, n, o, m, v, rfl, rfl, hI⟩
  · by_cases gN : 4 ≤ q ∧ w = -9
    · by_cases k6 : k = 6
      · exact ST_mk ⟨Nat.le_of_ble_eq_true rfl, Nat.le_of_ble_eq_true rfl, rfl, rfl⟩ ⟨Nat.le_of_ble_eq_true rfl, Nat.le_of_ble_eq_true rfl, rfl, rfl⟩ (c_X8_sees_fullN V ad X0 X1 X2 X3 X4 Hs L z b c d u lt sv A B x s kp U Y n o m k hI.okC l w q hl hq gN.1 gN.2 k6) (c_X9_sees_fullN V ad2 nw rw ps im kp L sw svv da co pl me fa ao al ax ta ts tv il s z k n o m hI.okM l w q hl hq gN.1 gN.2 k6) rfl ⟨X0, X1, X2, X3, X4, Hs, L, z, b, c, d, u, lt, sv, A, B, x, s, kp, U, Y, nw, rw, ps, im, sw, svv, da, co, pl, me, fa, ao, al, ax, ta, ts, tv, il, k, n, o, m, v, rfl, rfl, hI⟩
      · have e : U 2 0 + 1 = nI (k + 1) := by rw [hk, nI_1]
        exact ST_mk ⟨Nat.le_of_ble_eq_true rfl, Nat.le_of_ble_eq_true rfl, rfl, rfl⟩ ⟨Nat.le_of_ble_eq_true rfl, Nat.le_of_ble_eq_true rfl, rfl, rfl⟩ (c_X8_sees_okN V ad X0 X1 X2 X3 X4 Hs L z b c d u lt sv A B x s kp U Y n o m k hI.okC l w q hl hq gN.1 gN.2 (by omega)) (c_X9_sees_okN V ad2 nw rw ps im kp L sw svv da co pl me fa ao al ax ta ts tv il s z k n o m hI.okM l w q hl hq gN.1 gN.2 (by omega)) e ⟨X0, X1, X2, X3, X4, Hs, L, z, b, c, d, u, lt, sv, A, B, x, s, kp, uAdd U k l w, Y, nw, rw, ps, im, upd sw k l, upd svv k w, da, co, pl, me, fa, ao, al, ax, ta, ts, tv, il, k + 1, n, o, m, v, rfl, rfl, ⟨hI.1, hI.2.1, hI.2.2.1, hI.2.2.2.1, UW_add hu (by omega) hl hq⟩⟩
    · by_cases gV : ¬ w < 0 ∧ w ≤ 255
      · have v2 : ¬ 255 < w := Int32.not_lt.mpr gV.2
        by_cases k6 : k = 6
        · exact ST_mk ⟨Nat.le_of_ble_eq_true rfl, Nat.le_of_ble_eq_true rfl, rfl, rfl⟩ ⟨Nat.le_of_ble_eq_true rfl, Nat.le_of_ble_eq_true rfl, rfl, rfl⟩ (c_X8_sees_fullV V ad X0 X1 X2 X3 X4 Hs L z b c d u lt sv A B x s kp U Y n o m k hI.okC l w q hl hq gV.1 gV.2 k6) (c_X9_sees_fullV V ad2 nw rw ps im kp L sw svv da co pl me fa ao al ax ta ts tv il s z k n o m hI.okM l w q hl hq gV.1 v2 k6) rfl ⟨X0, X1, X2, X3, X4, Hs, L, z, b, c, d, u, lt, sv, A, B, x, s, kp, U, Y, nw, rw, ps, im, sw, svv, da, co, pl, me, fa, ao, al, ax, ta, ts, tv, il, k, n, o, m, v, rfl, rfl, hI⟩
        · have e : U 2 0 + 1 = nI (k + 1) := by rw [hk, nI_1]
          exact ST_mk ⟨Nat.le_of_ble_eq_true rfl, Nat.le_of_ble_eq_true rfl, rfl, rfl⟩ ⟨Nat.le_of_ble_eq_true rfl, Nat.le_of_ble_eq_true rfl, rfl, rfl⟩ (c_X8_sees_okV V ad X0 X1 X2 X3 X4 Hs L z b c d u lt sv A B x s kp U Y n o m k hI.okC l w q hl hq gV.1 gV.2 (by omega)) (c_X9_sees_okV V ad2 nw rw ps im kp L sw svv da co pl me fa ao al ax ta ts tv il s z k n o m hI.okM l w q hl hq gV.1 v2 (by omega)) e ⟨X0, X1, X2, X3, X4, Hs, L, z, b, c, d, u, lt, sv, A, B, x, s, kp, uAdd U k l w, Y, nw, rw, ps, im, upd sw k l, upd svv k w, da, co, pl, me, fa, ao, al, ax, ta, ts, tv, il, k + 1, n, o, m, v, rfl, rfl, ⟨hI.1, hI.2.1, hI.2.2.1, hI.2.2.2.1, UW_add hu (by omega) hl hq⟩⟩
      · have b1 : ¬ (¬ l < 0 ∧ ¬ 6 ≤ l ∧ ((¬ l < 4 ∧ w = (-9)) ∨ (¬ w < 0 ∧ w ≤ 255))) := fun g => by
          rcases g.2.2 with ⟨y1, y2⟩ | y
          · rw [hl] at y1
            have := rf_ltN (rfl : nI q = nI q) (nl 4) (by omega) (by omega) y1
            exact gN ⟨by omega, y2⟩
          · exact gV y
        have b2 : ¬ ((¬ l < 0 ∧ ¬ 5 < l) ∧ ((¬ l ≤ 3 ∧ w = (-9)) ∨ (¬ w < 0 ∧ ¬ 255 < w))) := fun g => by
          rcases g.2 with ⟨y1, y2⟩ | y
          · rw [hl] at y1
            have := rf_leN (rfl : nI q = nI q) (nl 3) (by omega) (by omega) y1
            exact gN ⟨by omega, y2⟩
          · exact gV ⟨y.1, Int32.not_lt.mp y.2⟩
        exact ST_mk ⟨Nat.le_of_ble_eq_true rfl, Nat.le_of_ble_eq_true rfl, rfl, rfl⟩ ⟨Nat.le_of_ble_eq_true rfl, Nat.le_of_ble_eq_true rfl, rfl, rfl⟩ (c_X8_sees_bad V ad X0 X1 X2 X3 X4 Hs L z b c d u lt sv A B x s kp U Y n o m k hI.okC l w b1) (c_X9_sees_bad V ad2 nw rw ps im kp L sw svv da co pl me fa ao al ax ta ts tv il s z k n o m hI.okM l w b2) rfl ⟨X0, X1, X2, X3, X4, Hs, L, z, b, c, d, u, lt, sv, A, B, x, s, kp, U, Y, nw, rw, ps, im, sw, svv, da, co, pl, me, fa, ao, al, ax, ta, ts, tv, il, k, n, o, m, v, rfl, rfl, hI⟩
set_option maxRecDepth 100000 in
set_option maxHeartbeats 4000000 in
theorem st_forget {V : VT} {ad : Nat → Nat → Nat} {ad2 : Nat → Nat} {CW MW : va_W} (hJ : JX V ad ad2 CW MW) : ST V ad ad2 yX8_forget cX8_forget 2 yX9_forget cX9_forget 2 [] CW MW := by
  obtain ⟨X0, X1, X2, X3, X4, Hs, L, z, b, c, d, u, lt, sv, A, B, x, s, kp, U, Y, nw, rw, ps, im, sw, svv, da, co, pl, me, fa, ao, al, ax, ta, ts, tv, il, k, n, o, m, v, rfl, rfl, hI⟩ := hJ
  exact ST_mk ⟨Nat.le_of_ble_eq_true rfl, Nat.le_of_ble_eq_true rfl, rfl, rfl⟩ ⟨Nat.le_of_ble_eq_true rfl, Nat.le_of_ble_eq_true rfl, rfl, rfl⟩ (c_X8_forget_ok V ad X0 X1 X2 X3 X4 Hs L z b c d u lt sv A B x s kp U Y n o m k hI.okC) (c_X9_forget_ok V ad2 nw rw ps im kp L sw svv da co pl me fa ao al ax ta ts tv il s z k n o m hI.okM) hI.2.2.2.2.1 ⟨X0, X1, X2, X3, X4, Hs, L, z, b, c, d, u, lt, sv, A, B, x, s, kp, u2 U 2 0 0, Y, nw, rw, ps, im, sw, svv, da, co, pl, me, fa, ao, al, ax, ta, ts, tv, il, 0, n, o, m, v, rfl, rfl, ⟨hI.1, hI.2.1, hI.2.2.1, hI.2.2.2.1, UW_0⟩⟩
