/-! One step a method -/
set_option maxRecDepth 100000 in
set_option maxHeartbeats 4000000 in
theorem st_cuts {V : VT} {ad : Nat → Nat → Nat} {ad2 : Nat → Nat} {CW MW : va_W} (hJ : JX V ad ad2 CW MW) (l : Int32) : ST V ad ad2 yX8_cuts cX8_cuts 2 yX9_cuts cX9_cuts 2 [.int l] CW MW := by
  obtain ⟨X0, X1, X2, X3, X4, Hs, L, z, b, c, d, u, lt, sv, A, B, x, s, kp, U, Y, nw, rw, ps, im, sw, svv, da, co, pl, me, fa, ao, al, ax, ta, ts, tv, il, k, n, o, m, v, rfl, rfl, hI⟩ := hJ
  have hm7 := hI.1.1.1.m7
  have hlc := hI.1.1.links
  have bc : l < 0 ∨ nI m ≤ l → ¬ (¬ l < 0 ∧ ¬ rLinks X0 ≤ l) := fun h => by rw [hlc.1]; exact bad_c h
  have bm : l < 0 ∨ nI m ≤ l → ¬ (¬ l < 0 ∧ ¬ nw 0 + nw 1 - 1 < l) := fun h => by rw [hlc.2]; exact bad_m (by omega) h
  rcases pk_ix l (n := m) (by omega) with h | h | ⟨q, hq, hl⟩
  · exact ST_mk ⟨Nat.le_of_ble_eq_true rfl, Nat.le_of_ble_eq_true rfl, rfl, rfl⟩ ⟨Nat.le_of_ble_eq_true rfl, Nat.le_of_ble_eq_true rfl, rfl, rfl⟩ (c_X8_cuts_bad V ad X0 X1 X2 X3 X4 Hs L z b c d u lt sv A B x s kp U Y n o m k hI.okC l (bc (Or.inl h))) (c_X9_cuts_bad V ad2 nw rw ps im kp L sw svv da co pl me fa ao al ax ta ts tv il s z k n o m hI.okM l (bm (Or.inl h))) rfl ⟨X0, X1, X2, X3, X4, Hs, L, z, b, c, d, u, lt, sv, A, B, x, s, kp, U, Y, nw, rw, ps, im, sw, svv, da, co, pl, me, fa, ao, al, ax, ta, ts, tv, il, k, n, o, m, v, rfl, rfl, hI⟩
  · exact ST_mk ⟨Nat.le_of_ble_eq_true rfl, Nat.le_of_ble_eq_true rfl, rfl, rfl⟩ ⟨Nat.le_of_ble_eq_true rfl, Nat.le_of_ble_eq_true rfl, rfl, rfl⟩ (c_X8_cuts_bad V ad X0 X1 X2 X3 X4 Hs L z b c d u lt sv A B x s kp U Y n o m k hI.okC l (bc (Or.inr h))) (c_X9_cuts_bad V ad2 nw rw ps im kp L sw svv da co pl me fa ao al ax ta ts tv il s z k n o m hI.okM l (bm (Or.inr h))) rfl ⟨X0, X1, X2, X3, X4, Hs, L, z, b, c, d, u, lt, sv, A, B, x, s, kp, U, Y, nw, rw, ps, im, sw, svv, da, co, pl, me, fa, ao, al, ax, ta, ts, tv, il, k, n, o, m, v, rfl, rfl, hI⟩
  · have hc := (hI.1.1.lc.cut hm7.1 hq).1
    by_cases g : hasB (nw 16) q
    · exact ST_mk ⟨Nat.le_of_ble_eq_true rfl, Nat.le_of_ble_eq_true rfl, rfl, rfl⟩ ⟨Nat.le_of_ble_eq_true rfl, Nat.le_of_ble_eq_true rfl, rfl, rfl⟩ (c_X8_cuts_state V ad X0 X1 X2 X3 X4 Hs L z b c d u lt sv A B x s kp U Y n o m k hI.okC l q hl hq (hc.mpr g)) (c_X9_cuts_state V ad2 nw rw ps im kp L sw svv da co pl me fa ao al ax ta ts tv il s z k n o m hI.okM l q hl hq g) rfl ⟨X0, X1, X2, X3, X4, Hs, L, z, b, c, d, u, lt, sv, A, B, x, s, kp, U, Y, nw, rw, ps, im, sw, svv, da, co, pl, me, fa, ao, al, ax, ta, ts, tv, il, k, n, o, m, v, rfl, rfl, hI⟩
    · subst hl
      have r := RQ_cut hI.1.1 hq
      have e : rCuts (u2 X0 1 (q * 2 + 1) 1) m = mOnes ((upd (upd nw 16 (nw 16 ||| ((1 : Int32) <<< (nI q &&& 31)))) 8 1) 16) 8 := by
        rw [pk_un (by decide), pk_us]
        exact cuts_eq (R := u2 X0 1 (q * 2 + 1) 1) (lc_cut hI.1.1.lc hm7.1 hq) hm7.1
      exact ST_mk ⟨Nat.le_of_ble_eq_true rfl, Nat.le_of_ble_eq_true rfl, rfl, rfl⟩ ⟨Nat.le_of_ble_eq_true rfl, Nat.le_of_ble_eq_true rfl, rfl, rfl⟩ (c_X8_cuts_ok V ad X0 X1 X2 X3 X4 Hs L z b c d u lt sv A B x s kp U Y n o m k hI.okC (nI q) q rfl hq (fun y => g (hc.mp y))) (c_X9_cuts_ok V ad2 nw rw ps im kp L sw svv da co pl me fa ao al ax ta ts tv il s z k n o m hI.okM (nI q) q rfl hq g) e ⟨u2 (u2 X0 1 (q * 2 + 1) 1) 5 6 1, X1, X2, X3, X4, va_up Hs x (rCopy (Hs x) X0), L, z, b, c, d, u, lt, sv, A, B, (x + 1) % 6, hsz s, kp, U, Y, upd (upd nw 16 (nw 16 ||| ((1 : Int32) <<< (nI q &&& 31)))) 8 1, rw, mNo nw ps s, im, sw, svv, da, co, pl, me, fa, ao, al, ax, ta, ts, tv, il, k, n, o, m, v ||| 2 ^ q, rfl, rfl, IV_push hI ⟨r, hI.1.2.1, hI.1.2.2⟩⟩
set_option maxRecDepth 100000 in
set_option maxHeartbeats 4000000 in
theorem st_heals {V : VT} {ad : Nat → Nat → Nat} {ad2 : Nat → Nat} {CW MW : va_W} (hJ : JX V ad ad2 CW MW) (l : Int32) : ST V ad ad2 yX8_heals cX8_heals 2 yX9_heals cX9_heals 2 [.int l] CW MW := by
  obtain ⟨X0, X1, X2, X3, X4, Hs, L, z, b, c, d, u, lt, sv, A, B, x, s, kp, U, Y, nw, rw, ps, im, sw, svv, da, co, pl, me, fa, ao, al, ax, ta, ts, tv, il, k, n, o, m, v, rfl, rfl, hI⟩ := hJ
  have hm7 := hI.1.1.1.m7
  have hlc := hI.1.1.links
  have bc : l < 0 ∨ nI m ≤ l → ¬ (¬ l < 0 ∧ ¬ rLinks X0 ≤ l) := fun h => by rw [hlc.1]; exact bad_c h
  have bm : l < 0 ∨ nI m ≤ l → ¬ (¬ l < 0 ∧ ¬ nw 0 + nw 1 - 1 < l) := fun h => by rw [hlc.2]; exact bad_m (by omega) h
  rcases pk_ix l (n := m) (by omega) with h | h | ⟨q, hq, hl⟩
  · exact ST_mk ⟨Nat.le_of_ble_eq_true rfl, Nat.le_of_ble_eq_true rfl, rfl, rfl⟩ ⟨Nat.le_of_ble_eq_true rfl, Nat.le_of_ble_eq_true rfl, rfl, rfl⟩ (c_X8_heals_bad V ad X0 X1 X2 X3 X4 Hs L z b c d u lt sv A B x s kp U Y n o m k hI.okC l (bc (Or.inl h))) (c_X9_heals_bad V ad2 nw rw ps im kp L sw svv da co pl me fa ao al ax ta ts tv il s z k n o m hI.okM l (bm (Or.inl h))) rfl ⟨X0, X1, X2, X3, X4, Hs, L, z, b, c, d, u, lt, sv, A, B, x, s, kp, U, Y, nw, rw, ps, im, sw, svv, da, co, pl, me, fa, ao, al, ax, ta, ts, tv, il, k, n, o, m, v, rfl, rfl, hI⟩
  · exact ST_mk ⟨Nat.le_of_ble_eq_true rfl, Nat.le_of_ble_eq_true rfl, rfl, rfl⟩ ⟨Nat.le_of_ble_eq_true rfl, Nat.le_of_ble_eq_true rfl, rfl, rfl⟩ (c_X8_heals_bad V ad X0 X1 X2 X3 X4 Hs L z b c d u lt sv A B x s kp U Y n o m k hI.okC l (bc (Or.inr h))) (c_X9_heals_bad V ad2 nw rw ps im kp L sw svv da co pl me fa ao al ax ta ts tv il s z k n o m hI.okM l (bm (Or.inr h))) rfl ⟨X0, X1, X2, X3, X4, Hs, L, z, b, c, d, u, lt, sv, A, B, x, s, kp, U, Y, nw, rw, ps, im, sw, svv, da, co, pl, me, fa, ao, al, ax, ta, ts, tv, il, k, n, o, m, v, rfl, rfl, hI⟩
  · have hc := hI.1.1.lc.cut hm7.1 hq
    by_cases g : hasB (nw 16) q
    · subst hl
      have r := RQ_heal hI.1.1 hq (hc.2.mp g)
      have e : rCuts (u2 X0 1 (q * 2 + 1) 0) m = mOnes ((upd nw 16 (nw 16 - ((1 : Int32) <<< (nI q &&& 31)))) 16) 8 := by
        rw [pk_us]
        exact cuts_eq (R := u2 X0 1 (q * 2 + 1) 0) (lc_heal hI.1.1.lc hm7.1 hq (hc.2.mp g)) hm7.1
      exact ST_mk ⟨Nat.le_of_ble_eq_true rfl, Nat.le_of_ble_eq_true rfl, rfl, rfl⟩ ⟨Nat.le_of_ble_eq_true rfl, Nat.le_of_ble_eq_true rfl, rfl, rfl⟩ (c_X8_heals_ok V ad X0 X1 X2 X3 X4 Hs L z b c d u lt sv A B x s kp U Y n o m k hI.okC (nI q) q rfl hq (hc.1.mpr g)) (c_X9_heals_ok V ad2 nw rw ps im kp L sw svv da co pl me fa ao al ax ta ts tv il s z k n o m hI.okM (nI q) q rfl hq g) e ⟨u2 X0 1 (q * 2 + 1) 0, X1, X2, X3, X4, va_up Hs x (rCopy (Hs x) X0), L, z, b, c, d, u, lt, sv, A, B, (x + 1) % 6, hsz s, kp, U, Y, upd nw 16 (nw 16 - ((1 : Int32) <<< (nI q &&& 31))), rw, mNo nw ps s, im, sw, svv, da, co, pl, me, fa, ao, al, ax, ta, ts, tv, il, k, n, o, m, v - 2 ^ q, rfl, rfl, IV_push hI ⟨r, hI.1.2.1, hI.1.2.2⟩⟩
    · exact ST_mk ⟨Nat.le_of_ble_eq_true rfl, Nat.le_of_ble_eq_true rfl, rfl, rfl⟩ ⟨Nat.le_of_ble_eq_true rfl, Nat.le_of_ble_eq_true rfl, rfl, rfl⟩ (c_X8_heals_state V ad X0 X1 X2 X3 X4 Hs L z b c d u lt sv A B x s kp U Y n o m k hI.okC l q hl hq (fun y => g (hc.1.mp y))) (c_X9_heals_state V ad2 nw rw ps im kp L sw svv da co pl me fa ao al ax ta ts tv il s z k n o m hI.okM l q hl hq g) rfl ⟨X0, X1, X2, X3, X4, Hs, L, z, b, c, d, u, lt, sv, A, B, x, s, kp, U, Y, nw, rw, ps, im, sw, svv, da, co, pl, me, fa, ao, al, ax, ta, ts, tv, il, k, n, o, m, v, rfl, rfl, hI⟩
set_option maxRecDepth 100000 in
set_option maxHeartbeats 4000000 in
theorem st_cycles {V : VT} {ad : Nat → Nat → Nat} {ad2 : Nat → Nat} {CW MW : va_W} (hJ : JX V ad ad2 CW MW) (l : Int32) : ST V ad ad2 yX8_cycles cX8_cycles 3 yX9_cycles cX9_cycles 3 [.int l] CW MW := by
  obtain ⟨X0, X1, X2, X3, X4, Hs, L, z, b, c, d, u, lt, sv, A, B, x, s, kp, U, Y, nw, rw, ps, im, sw, svv, da, co, pl, me, fa, ao, al, ax, ta, ts, tv, il, k, n, o, m, v, rfl, rfl, hI⟩ := hJ
  by_cases h1 : l < 1
  · exact ST_mk ⟨Nat.le_of_ble_eq_true rfl, Nat.le_of_ble_eq_true rfl, rfl, rfl⟩ ⟨Nat.le_of_ble_eq_true rfl, Nat.le_of_ble_eq_true rfl, rfl, rfl⟩ (c_X8_cycles_bad V ad X0 X1 X2 X3 X4 Hs L z b c d u lt sv A B x s kp U Y n o m k hI.okC l (fun g => g.1 h1)) (c_X9_cycles_bad V ad2 nw rw ps im kp L sw svv da co pl me fa ao al ax ta ts tv il s z k n o m hI.okM l (fun g => g.1 h1)) rfl ⟨X0, X1, X2, X3, X4, Hs, L, z, b, c, d, u, lt, sv, A, B, x, s, kp, U, Y, nw, rw, ps, im, sw, svv, da, co, pl, me, fa, ao, al, ax, ta, ts, tv, il, k, n, o, m, v, rfl, rfl, hI⟩
  · by_cases h2 : l ≤ 20
    · have h2' : ¬ 20 < l := Int32.not_lt.mpr h2
      have h0 : ¬ l < 0 := fun g => h1 (Int32.lt_trans g (by decide))
      obtain ⟨q, hq, hl⟩ := nI_of2 (M := 20) (n := 20) (by decide) h0 h2
      have hq1 : 1 ≤ q := by
        rw [hl] at h1
        have := rf_ltN (rfl : nI q = nI q) (nl 1) (by omega) (by omega) h1
        omega
      by_cases h3 : o = 0
      · exact ST_mk ⟨Nat.le_of_ble_eq_true rfl, Nat.le_of_ble_eq_true rfl, rfl, rfl⟩ ⟨Nat.le_of_ble_eq_true rfl, Nat.le_of_ble_eq_true rfl, rfl, rfl⟩ (c_X8_cycles_state V ad X0 X1 X2 X3 X4 Hs L z b c d u lt sv A B x s kp U Y n o m k hI.okC l q hl hq1 hq h3) (c_X9_cycles_state V ad2 nw rw ps im kp L sw svv da co pl me fa ao al ax ta ts tv il s z k n o m hI.okM l q hl hq1 hq h3) rfl ⟨X0, X1, X2, X3, X4, Hs, L, z, b, c, d, u, lt, sv, A, B, x, s, kp, U, Y, nw, rw, ps, im, sw, svv, da, co, pl, me, fa, ao, al, ax, ta, ts, tv, il, k, n, o, m, v, rfl, rfl, hI⟩
      · have r := cyN_eq (A := A) (B := B) (sv := sv) (da := da) (co := co) (pl := pl) (me := me) hI.1.1 hI.1.2.2 q
        have e := safe_eq r.1
        exact ST_mk ⟨Nat.le_of_ble_eq_true rfl, Nat.le_of_ble_eq_true rfl, rfl, rfl⟩ ⟨Nat.le_of_ble_eq_true rfl, Nat.le_of_ble_eq_true rfl, rfl, rfl⟩ (c_X8_cycles_ok V ad X0 X1 X2 X3 X4 Hs L z b c d u lt sv A B x s kp U Y n o m k hI.okC l q hl hq1 hq (by omega)) (c_X9_cycles_ok V ad2 nw rw ps im kp L sw svv da co pl me fa ao al ax ta ts tv il s z k n o m hI.okM l q hl hq1 hq (by omega)) e ⟨(cyN n o m q (A, B, X0, sv)).2.2.1, X1, X2, X3, X4, va_up Hs x (rCopy (Hs x) X0), L, z, b, c, d, u, lt, (cyN n o m q (A, B, X0, sv)).2.2.2, (cyN n o m q (A, B, X0, sv)).1, (cyN n o m q (A, B, X0, sv)).2.1, (x + 1) % 6, hsz s, kp, U, Y, (mCyN n o q (nw, da, co, pl, me)).1, rw, mNo nw ps s, im, sw, svv, (mCyN n o q (nw, da, co, pl, me)).2.1, (mCyN n o q (nw, da, co, pl, me)).2.2.1, (mCyN n o q (nw, da, co, pl, me)).2.2.2.1, (mCyN n o q (nw, da, co, pl, me)).2.2.2.2, fa, ao, al, ax, ta, ts, tv, il, k, n, o, m, v, rfl, rfl, IV_push hI ⟨r.1, hI.1.2.1, r.2⟩⟩
    · have h2' : 20 < l := Int32.not_le.mp h2
      exact ST_mk ⟨Nat.le_of_ble_eq_true rfl, Nat.le_of_ble_eq_true rfl, rfl, rfl⟩ ⟨Nat.le_of_ble_eq_true rfl, Nat.le_of_ble_eq_true rfl, rfl, rfl⟩ (c_X8_cycles_bad V ad X0 X1 X2 X3 X4 Hs L z b c d u lt sv A B x s kp U Y n o m k hI.okC l (fun g => h2 g.2)) (c_X9_cycles_bad V ad2 nw rw ps im kp L sw svv da co pl me fa ao al ax ta ts tv il s z k n o m hI.okM l (fun g => g.2 h2')) rfl ⟨X0, X1, X2, X3, X4, Hs, L, z, b, c, d, u, lt, sv, A, B, x, s, kp, U, Y, nw, rw, ps, im, sw, svv, da, co, pl, me, fa, ao, al, ax, ta, ts, tv, il, k, n, o, m, v, rfl, rfl, hI⟩
set_option maxRecDepth 100000 in
set_option maxHeartbeats 4000000 in
theorem st_resets {V : VT} {ad : Nat → Nat → Nat} {ad2 : Nat → Nat} {CW MW : va_W} (hJ : JX V ad ad2 CW MW) (l : Int32) : ST V ad ad2 yX8_resets cX8_resets 3 yX9_resets cX9_resets 4 [.int l] CW MW := by
  obtain ⟨X0, X1, X2, X3, X4, Hs, L, z, b, c, d, u, lt, sv, A, B, x, s, kp, U, Y, nw, rw, ps, im, sw, svv, da, co, pl, me, fa, ao, al, ax, ta, ts, tv, il, k, n, o, m, v, rfl, rfl, hI⟩ := hJ
  have hn6 := hI.1.1.1.1.2.2
  have hdc := hI.1.1.1.1
  have bc : l < 0 ∨ nI n ≤ l → ¬ (¬ l < 0 ∧ ¬ X0 5 0 ≤ l) := fun h => by rw [hdc.1]; exact bad_c h
  have bm : l < 0 ∨ nI n ≤ l → ¬ (¬ l < 0 ∧ ¬ nw 0 - 1 < l) := fun h => by rw [hdc.2.1]; exact bad_m (by omega) h
  rcases pk_ix l (n := n) (by omega) with h | h | ⟨q, hq, hl⟩
  · exact ST_mk ⟨Nat.le_of_ble_eq_true rfl, Nat.le_of_ble_eq_true rfl, rfl, rfl⟩ ⟨Nat.le_of_ble_eq_true rfl, Nat.le_of_ble_eq_true rfl, rfl, rfl⟩ (c_X8_resets_bad V ad X0 X1 X2 X3 X4 Hs L z b c d u lt sv A B x s kp U Y n o m k hI.okC l (bc (Or.inl h))) (c_X9_resets_bad V ad2 nw rw ps im kp L sw svv da co pl me fa ao al ax ta ts tv il s z k n o m hI.okM l (bm (Or.inl h))) rfl ⟨X0, X1, X2, X3, X4, Hs, L, z, b, c, d, u, lt, sv, A, B, x, s, kp, U, Y, nw, rw, ps, im, sw, svv, da, co, pl, me, fa, ao, al, ax, ta, ts, tv, il, k, n, o, m, v, rfl, rfl, hI⟩
  · exact ST_mk ⟨Nat.le_of_ble_eq_true rfl, Nat.le_of_ble_eq_true rfl, rfl, rfl⟩ ⟨Nat.le_of_ble_eq_true rfl, Nat.le_of_ble_eq_true rfl, rfl, rfl⟩ (c_X8_resets_bad V ad X0 X1 X2 X3 X4 Hs L z b c d u lt sv A B x s kp U Y n o m k hI.okC l (bc (Or.inr h))) (c_X9_resets_bad V ad2 nw rw ps im kp L sw svv da co pl me fa ao al ax ta ts tv il s z k n o m hI.okM l (bm (Or.inr h))) rfl ⟨X0, X1, X2, X3, X4, Hs, L, z, b, c, d, u, lt, sv, A, B, x, s, kp, U, Y, nw, rw, ps, im, sw, svv, da, co, pl, me, fa, ao, al, ax, ta, ts, tv, il, k, n, o, m, v, rfl, rfl, hI⟩
  · obtain ⟨f, fs⟩ := hI.1.1.2.2.1 q hq
    have f5 := f 5 (by decide)
    have f6 := f 6 (by decide)
    by_cases h5 : X0 0 (q * 9 + 5) = 0
    · rcases fs with z6 | z6
      · exact ST_mk ⟨Nat.le_of_ble_eq_true rfl, Nat.le_of_ble_eq_true rfl, rfl, rfl⟩ ⟨Nat.le_of_ble_eq_true rfl, Nat.le_of_ble_eq_true rfl, rfl, rfl⟩ (c_X8_resets_state V ad X0 X1 X2 X3 X4 Hs L z b c d u lt sv A B x s kp U Y n o m k hI.okC l q hl hq (by rw [z6]; decide) h5) (c_X9_resets_state V ad2 nw rw ps im kp L sw svv da co pl me fa ao al ax ta ts tv il s z k n o m hI.okM l q hl hq (by rw [f6]; exact z6) (by rw [f5]; exact h5)) rfl ⟨X0, X1, X2, X3, X4, Hs, L, z, b, c, d, u, lt, sv, A, B, x, s, kp, U, Y, nw, rw, ps, im, sw, svv, da, co, pl, me, fa, ao, al, ax, ta, ts, tv, il, k, n, o, m, v, rfl, rfl, hI⟩
      · exact ST_mk ⟨Nat.le_of_ble_eq_true rfl, Nat.le_of_ble_eq_true rfl, rfl, rfl⟩ ⟨Nat.le_of_ble_eq_true rfl, Nat.le_of_ble_eq_true rfl, rfl, rfl⟩ (c_X8_resets_ok V ad X0 X1 X2 X3 X4 Hs L z b c d u lt sv A B x s kp U Y n o m k hI.okC l q hl hq (Or.inl z6)) (c_X9_resets_ok V ad2 nw rw ps im kp L sw svv da co pl me fa ao al ax ta ts tv il s z k n o m hI.okM l q hl hq (Or.inl (by rw [f6, z6]; decide))) f5.symm ⟨u2 (u2 X0 0 (q * 9 + 6) 0) 0 (q * 9 + 5) 0, X1, X2, X3, X4, va_up Hs x (rCopy (Hs x) X0), L, z, b, c, d, u, lt, sv, A, B, (x + 1) % 6, hsz s, kp, U, Y, upd (upd nw (17 + 9 * q + 6) 0) (17 + 9 * q + 5) 0, rw, mNo nw ps s, im, sw, svv, da, co, pl, me, fa, ao, al, ax, ta, ts, tv, il, k, n, o, m, v, rfl, rfl, IV_push hI ⟨RQ_put (RQ_put hI.1.1 hq (by decide) (fun _ => Or.inl rfl)) hq (by decide) (fun g => absurd g (by decide)), hI.1.2.1, hI.1.2.2⟩⟩
    · exact ST_mk ⟨Nat.le_of_ble_eq_true rfl, Nat.le_of_ble_eq_true rfl, rfl, rfl⟩ ⟨Nat.le_of_ble_eq_true rfl, Nat.le_of_ble_eq_true rfl, rfl, rfl⟩ (c_X8_resets_ok V ad X0 X1 X2 X3 X4 Hs L z b c d u lt sv A B x s kp U Y n o m k hI.okC l q hl hq (Or.inr h5)) (c_X9_resets_ok V ad2 nw rw ps im kp L sw svv da co pl me fa ao al ax ta ts tv il s z k n o m hI.okM l q hl hq (Or.inr (by rw [f5]; exact h5))) f5.symm ⟨u2 (u2 X0 0 (q * 9 + 6) 0) 0 (q * 9 + 5) 0, X1, X2, X3, X4, va_up Hs x (rCopy (Hs x) X0), L, z, b, c, d, u, lt, sv, A, B, (x + 1) % 6, hsz s, kp, U, Y, upd (upd nw (17 + 9 * q + 6) 0) (17 + 9 * q + 5) 0, rw, mNo nw ps s, im, sw, svv, da, co, pl, me, fa, ao, al, ax, ta, ts, tv, il, k, n, o, m, v, rfl, rfl, IV_push hI ⟨RQ_put (RQ_put hI.1.1 hq (by decide) (fun _ => Or.inl rfl)) hq (by decide) (fun g => absurd g (by decide)), hI.1.2.1, hI.1.2.2⟩⟩
set_option maxRecDepth 100000 in
set_option maxHeartbeats 4000000 in
theorem st_sets {V : VT} {ad : Nat → Nat → Nat} {ad2 : Nat → Nat} {CW MW : va_W} (hJ : JX V ad ad2 CW MW) (l a w : Int32) : ST V ad ad2 yX8_sets cX8_sets 5 yX9_sets cX9_sets 6 [.int l, .int a, .int w] CW MW := by
  obtain ⟨X0, X1, X2, X3, X4, Hs, L, z, b, c, d, u, lt, sv, A, B, x, s, kp, U, Y, nw, rw, ps, im, sw, svv, da, co, pl, me, fa, ao, al, ax, ta, ts, tv, il, k, n, o, m, v, rfl, rfl, hI⟩ := hJ
  have hn6 := hI.1.1.1.1.2.2
  have hdc := hI.1.1.1.1
  have bc : l < 0 ∨ nI n ≤ l → ¬ (¬ l < 0 ∧ ¬ X0 5 0 ≤ l) := fun h => by rw [hdc.1]; exact bad_c h
  have bm : l < 0 ∨ nI n ≤ l → ¬ (¬ l < 0 ∧ ¬ nw 0 - 1 < l) := fun h => by rw [hdc.2.1]; exact bad_m (by omega) h
  rcases pk_ix l (n := n) (by omega) with h | h | ⟨q, hq, hl⟩
  · exact ST_mk ⟨Nat.le_of_ble_eq_true rfl, Nat.le_of_ble_eq_true rfl, rfl, rfl⟩ ⟨Nat.le_of_ble_eq_true rfl, Nat.le_of_ble_eq_true rfl, rfl, rfl⟩ (c_X8_sets_bad V ad X0 X1 X2 X3 X4 Hs L z b c d u lt sv A B x s kp U Y n o m k hI.okC l a w (fun g => bc (Or.inl h) g.1)) (c_X9_sets_bad V ad2 nw rw ps im kp L sw svv da co pl me fa ao al ax ta ts tv il s z k n o m hI.okM l a w (fun g => bm (Or.inl h) g.1)) rfl ⟨X0, X1, X2, X3, X4, Hs, L, z, b, c, d, u, lt, sv, A, B, x, s, kp, U, Y, nw, rw, ps, im, sw, svv, da, co, pl, me, fa, ao, al, ax, ta, ts, tv, il, k, n, o, m, v, rfl, rfl, hI⟩
  · exact ST_mk ⟨Nat.le_of_ble_eq_true rfl, Nat.le_of_ble_eq_true rfl, rfl, rfl⟩ ⟨Nat.le_of_ble_eq_true rfl, Nat.le_of_ble_eq_true rfl, rfl, rfl⟩ (c_X8_sets_bad V ad X0 X1 X2 X3 X4 Hs L z b c d u lt sv A B x s kp U Y n o m k hI.okC l a w (fun g => bc (Or.inr h) g.1)) (c_X9_sets_bad V ad2 nw rw ps im kp L sw svv da co pl me fa ao al ax ta ts tv il s z k n o m hI.okM l a w (fun g => bm (Or.inr h) g.1)) rfl ⟨X0, X1, X2, X3, X4, Hs, L, z, b, c, d, u, lt, sv, A, B, x, s, kp, U, Y, nw, rw, ps, im, sw, svv, da, co, pl, me, fa, ao, al, ax, ta, ts, tv, il, k, n, o, m, v, rfl, rfl, hI⟩
  · rcases pk_ix a (n := 4) (by omega) with h | h | ⟨t, ht, ha⟩
    · exact ST_mk ⟨Nat.le_of_ble_eq_true rfl, Nat.le_of_ble_eq_true rfl, rfl, rfl⟩ ⟨Nat.le_of_ble_eq_true rfl, Nat.le_of_ble_eq_true rfl, rfl, rfl⟩ (c_X8_sets_bad V ad X0 X1 X2 X3 X4 Hs L z b c d u lt sv A B x s kp U Y n o m k hI.okC l a w (fun g => g.2.1 h)) (c_X9_sets_bad V ad2 nw rw ps im kp L sw svv da co pl me fa ao al ax ta ts tv il s z k n o m hI.okM l a w (fun g => g.2.1.1 h)) rfl ⟨X0, X1, X2, X3, X4, Hs, L, z, b, c, d, u, lt, sv, A, B, x, s, kp, U, Y, nw, rw, ps, im, sw, svv, da, co, pl, me, fa, ao, al, ax, ta, ts, tv, il, k, n, o, m, v, rfl, rfl, hI⟩
    · have h' : 3 < a := Int32.lt_of_lt_of_le (by decide) h
      exact ST_mk ⟨Nat.le_of_ble_eq_true rfl, Nat.le_of_ble_eq_true rfl, rfl, rfl⟩ ⟨Nat.le_of_ble_eq_true rfl, Nat.le_of_ble_eq_true rfl, rfl, rfl⟩ (c_X8_sets_bad V ad X0 X1 X2 X3 X4 Hs L z b c d u lt sv A B x s kp U Y n o m k hI.okC l a w (fun g => g.2.2.1 h)) (c_X9_sets_bad V ad2 nw rw ps im kp L sw svv da co pl me fa ao al ax ta ts tv il s z k n o m hI.okM l a w (fun g => g.2.1.2 h')) rfl ⟨X0, X1, X2, X3, X4, Hs, L, z, b, c, d, u, lt, sv, A, B, x, s, kp, U, Y, nw, rw, ps, im, sw, svv, da, co, pl, me, fa, ao, al, ax, ta, ts, tv, il, k, n, o, m, v, rfl, rfl, hI⟩
    · by_cases v1 : w < 0
      · exact ST_mk ⟨Nat.le_of_ble_eq_true rfl, Nat.le_of_ble_eq_true rfl, rfl, rfl⟩ ⟨Nat.le_of_ble_eq_true rfl, Nat.le_of_ble_eq_true rfl, rfl, rfl⟩ (c_X8_sets_bad V ad X0 X1 X2 X3 X4 Hs L z b c d u lt sv A B x s kp U Y n o m k hI.okC l a w (fun g => g.2.2.2.1 v1)) (c_X9_sets_bad V ad2 nw rw ps im kp L sw svv da co pl me fa ao al ax ta ts tv il s z k n o m hI.okM l a w (fun g => g.2.2.1 v1)) rfl ⟨X0, X1, X2, X3, X4, Hs, L, z, b, c, d, u, lt, sv, A, B, x, s, kp, U, Y, nw, rw, ps, im, sw, svv, da, co, pl, me, fa, ao, al, ax, ta, ts, tv, il, k, n, o, m, v, rfl, rfl, hI⟩
      · by_cases v2 : w ≤ 255
        · have v2' : ¬ 255 < w := Int32.not_lt.mpr v2
          obtain ⟨f, fs⟩ := hI.1.1.2.2.1 q hq
          have f6 := f 6 (by decide)
          have ft : nw (17 + 9 * q + 1 + t) = X0 0 (q * 9 + (1 + t)) := by rw [Nat.add_assoc]; exact f (1 + t) (by omega)
          by_cases g1 : X0 0 (q * 9 + (1 + t)) = w
          · exact ST_mk ⟨Nat.le_of_ble_eq_true rfl, Nat.le_of_ble_eq_true rfl, rfl, rfl⟩ ⟨Nat.le_of_ble_eq_true rfl, Nat.le_of_ble_eq_true rfl, rfl, rfl⟩ (c_X8_sets_state V ad X0 X1 X2 X3 X4 Hs L z b c d u lt sv A B x s kp U Y n o m k hI.okC l a w q t hl hq ha ht v1 v2 (Or.inl g1)) (c_X9_sets_state V ad2 nw rw ps im kp L sw svv da co pl me fa ao al ax ta ts tv il s z k n o m hI.okM l a w q t hl hq ha ht v1 v2' (Or.inl (by rw [ft]; exact g1))) rfl ⟨X0, X1, X2, X3, X4, Hs, L, z, b, c, d, u, lt, sv, A, B, x, s, kp, U, Y, nw, rw, ps, im, sw, svv, da, co, pl, me, fa, ao, al, ax, ta, ts, tv, il, k, n, o, m, v, rfl, rfl, hI⟩
          · by_cases g2 : X0 0 (q * 9 + 6) = 1
            · exact ST_mk ⟨Nat.le_of_ble_eq_true rfl, Nat.le_of_ble_eq_true rfl, rfl, rfl⟩ ⟨Nat.le_of_ble_eq_true rfl, Nat.le_of_ble_eq_true rfl, rfl, rfl⟩ (c_X8_sets_state V ad X0 X1 X2 X3 X4 Hs L z b c d u lt sv A B x s kp U Y n o m k hI.okC l a w q t hl hq ha ht v1 v2 (Or.inr g2)) (c_X9_sets_state V ad2 nw rw ps im kp L sw svv da co pl me fa ao al ax ta ts tv il s z k n o m hI.okM l a w q t hl hq ha ht v1 v2' (Or.inr (by rw [f6]; exact g2))) rfl ⟨X0, X1, X2, X3, X4, Hs, L, z, b, c, d, u, lt, sv, A, B, x, s, kp, U, Y, nw, rw, ps, im, sw, svv, da, co, pl, me, fa, ao, al, ax, ta, ts, tv, il, k, n, o, m, v, rfl, rfl, hI⟩
            · have r : RQ (u2 X0 0 (q * 9 + (1 + t)) w) (upd nw (17 + 9 * q + 1 + t) w) n o m v := by
                rw [Nat.add_assoc]
                exact RQ_put hI.1.1 hq (by omega) (fun g => absurd g (by omega))
              exact ST_mk ⟨Nat.le_of_ble_eq_true rfl, Nat.le_of_ble_eq_true rfl, rfl, rfl⟩ ⟨Nat.le_of_ble_eq_true rfl, Nat.le_of_ble_eq_true rfl, rfl, rfl⟩ (c_X8_sets_ok V ad X0 X1 X2 X3 X4 Hs L z b c d u lt sv A B x s kp U Y n o m k hI.okC l a w q t hl hq ha ht v1 v2 g1 g2) (c_X9_sets_ok V ad2 nw rw ps im kp L sw svv da co pl me fa ao al ax ta ts tv il s z k n o m hI.okM l a w q t hl hq ha ht v1 v2' (by rw [ft]; exact g1) (by rw [f6]; exact g2)) ft.symm ⟨u2 X0 0 (q * 9 + (1 + t)) w, X1, X2, X3, X4, va_up Hs x (rCopy (Hs x) X0), L, z, b, c, d, u, lt, sv, A, B, (x + 1) % 6, hsz s, kp, U, Y, upd nw (17 + 9 * q + 1 + t) w, rw, mNo nw ps s, im, sw, svv, da, co, pl, me, fa, ao, al, ax, ta, ts, tv, il, k, n, o, m, v, rfl, rfl, IV_push hI ⟨r, hI.1.2.1, hI.1.2.2⟩⟩
        · have v2' : 255 < w := Int32.not_le.mp v2
          exact ST_mk ⟨Nat.le_of_ble_eq_true rfl, Nat.le_of_ble_eq_true rfl, rfl, rfl⟩ ⟨Nat.le_of_ble_eq_true rfl, Nat.le_of_ble_eq_true rfl, rfl, rfl⟩ (c_X8_sets_bad V ad X0 X1 X2 X3 X4 Hs L z b c d u lt sv A B x s kp U Y n o m k hI.okC l a w (fun g => v2 g.2.2.2.2)) (c_X9_sets_bad V ad2 nw rw ps im kp L sw svv da co pl me fa ao al ax ta ts tv il s z k n o m hI.okM l a w (fun g => g.2.2.2 v2')) rfl ⟨X0, X1, X2, X3, X4, Hs, L, z, b, c, d, u, lt, sv, A, B, x, s, kp, U, Y, nw, rw, ps, im, sw, svv, da, co, pl, me, fa, ao, al, ax, ta, ts, tv, il, k, n, o, m, v, rfl, rfl, hI⟩
set_option maxRecDepth 100000 in
set_option maxHeartbeats 4000000 in
theorem st_drifts {V : VT} {ad : Nat → Nat → Nat} {ad2 : Nat → Nat} {CW MW : va_W} (hJ : JX V ad ad2 CW MW) (l w : Int32) : ST V ad ad2 yX8_drifts cX8_drifts 3 yX9_drifts cX9_drifts 4 [.int l, .int w] CW MW := by
  obtain ⟨X0, X1, X2, X3, X4, Hs, L, z, b, c, d, u, lt, sv, A, B, x, s, kp, U, Y, nw, rw, ps, im, sw, svv, da, co, pl, me, fa, ao, al, ax, ta, ts, tv, il, k, n, o, m, v, rfl, rfl, hI⟩ := hJ
  have hn6 := hI.1.1.1.1.2.2
  have hdc := hI.1.1.1.1
  have bc : l < 0 ∨ nI n ≤ l → ¬ (¬ l < 0 ∧ ¬ X0 5 0 ≤ l) := fun h => by rw [hdc.1]; exact bad_c h
  have bm : l < 0 ∨ nI n ≤ l → ¬ (¬ l < 0 ∧ ¬ nw 0 - 1 < l) := fun h => by rw [hdc.2.1]; exact bad_m (by omega) h
  rcases pk_ix l (n := n) (by omega) with h | h | ⟨q, hq, hl⟩
  · exact ST_mk ⟨Nat.le_of_ble_eq_true rfl, Nat.le_of_ble_eq_true rfl, rfl, rfl⟩ ⟨Nat.le_of_ble_eq_true rfl, Nat.le_of_ble_eq_true rfl, rfl, rfl⟩ (c_X8_drifts_bad V ad X0 X1 X2 X3 X4 Hs L z b c d u lt sv A B x s kp U Y n o m k hI.okC l w (fun g => bc (Or.inl h) g.1)) (c_X9_drifts_bad V ad2 nw rw ps im kp L sw svv da co pl me fa ao al ax ta ts tv il s z k n o m hI.okM l w (fun g => bm (Or.inl h) g.1)) rfl ⟨X0, X1, X2, X3, X4, Hs, L, z, b, c, d, u, lt, sv, A, B, x, s, kp, U, Y, nw, rw, ps, im, sw, svv, da, co, pl, me, fa, ao, al, ax, ta, ts, tv, il, k, n, o, m, v, rfl, rfl, hI⟩
  · exact ST_mk ⟨Nat.le_of_ble_eq_true rfl, Nat.le_of_ble_eq_true rfl, rfl, rfl⟩ ⟨Nat.le_of_ble_eq_true rfl, Nat.le_of_ble_eq_true rfl, rfl, rfl⟩ (c_X8_drifts_bad V ad X0 X1 X2 X3 X4 Hs L z b c d u lt sv A B x s kp U Y n o m k hI.okC l w (fun g => bc (Or.inr h) g.1)) (c_X9_drifts_bad V ad2 nw rw ps im kp L sw svv da co pl me fa ao al ax ta ts tv il s z k n o m hI.okM l w (fun g => bm (Or.inr h) g.1)) rfl ⟨X0, X1, X2, X3, X4, Hs, L, z, b, c, d, u, lt, sv, A, B, x, s, kp, U, Y, nw, rw, ps, im, sw, svv, da, co, pl, me, fa, ao, al, ax, ta, ts, tv, il, k, n, o, m, v, rfl, rfl, hI⟩
  · by_cases v1 : w < -50
    · exact ST_mk ⟨Nat.le_of_ble_eq_true rfl, Nat.le_of_ble_eq_true rfl, rfl, rfl⟩ ⟨Nat.le_of_ble_eq_true rfl, Nat.le_of_ble_eq_true rfl, rfl, rfl⟩ (c_X8_drifts_bad V ad X0 X1 X2 X3 X4 Hs L z b c d u lt sv A B x s kp U Y n o m k hI.okC l w (fun g => g.2.1 v1)) (c_X9_drifts_bad V ad2 nw rw ps im kp L sw svv da co pl me fa ao al ax ta ts tv il s z k n o m hI.okM l w (fun g => g.2.1 v1)) rfl ⟨X0, X1, X2, X3, X4, Hs, L, z, b, c, d, u, lt, sv, A, B, x, s, kp, U, Y, nw, rw, ps, im, sw, svv, da, co, pl, me, fa, ao, al, ax, ta, ts, tv, il, k, n, o, m, v, rfl, rfl, hI⟩
    · by_cases v2 : w ≤ 50
      · have v2' : ¬ 50 < w := Int32.not_lt.mpr v2
        have f7 := (hI.1.1.2.2.1 q hq).1 7 (by decide)
        by_cases g1 : X0 0 (q * 9 + 7) = w
        · exact ST_mk ⟨Nat.le_of_ble_eq_true rfl, Nat.le_of_ble_eq_true rfl, rfl, rfl⟩ ⟨Nat.le_of_ble_eq_true rfl, Nat.le_of_ble_eq_true rfl, rfl, rfl⟩ (c_X8_drifts_state V ad X0 X1 X2 X3 X4 Hs L z b c d u lt sv A B x s kp U Y n o m k hI.okC l w q hl hq v1 v2 g1) (c_X9_drifts_state V ad2 nw rw ps im kp L sw svv da co pl me fa ao al ax ta ts tv il s z k n o m hI.okM l w q hl hq v1 v2' (by rw [f7]; exact g1)) rfl ⟨X0, X1, X2, X3, X4, Hs, L, z, b, c, d, u, lt, sv, A, B, x, s, kp, U, Y, nw, rw, ps, im, sw, svv, da, co, pl, me, fa, ao, al, ax, ta, ts, tv, il, k, n, o, m, v, rfl, rfl, hI⟩
        · exact ST_mk ⟨Nat.le_of_ble_eq_true rfl, Nat.le_of_ble_eq_true rfl, rfl, rfl⟩ ⟨Nat.le_of_ble_eq_true rfl, Nat.le_of_ble_eq_true rfl, rfl, rfl⟩ (c_X8_drifts_ok V ad X0 X1 X2 X3 X4 Hs L z b c d u lt sv A B x s kp U Y n o m k hI.okC l w q hl hq v1 v2 g1) (c_X9_drifts_ok V ad2 nw rw ps im kp L sw svv da co pl me fa ao al ax ta ts tv il s z k n o m hI.okM l w q hl hq v1 v2' (by rw [f7]; exact g1)) rfl ⟨u2 X0 0 (q * 9 + 7) w, X1, X2, X3, X4, va_up Hs x (rCopy (Hs x) X0), L, z, b, c, d, u, lt, sv, A, B, (x + 1) % 6, hsz s, kp, U, Y, upd nw (17 + 9 * q + 7) w, rw, mNo nw ps s, im, sw, svv, da, co, pl, me, fa, ao, al, ax, ta, ts, tv, il, k, n, o, m, v, rfl, rfl, IV_push hI ⟨RQ_put hI.1.1 hq (by decide) (fun g => absurd g (by decide)), hI.1.2.1, hI.1.2.2⟩⟩
      · have v2' : 50 < w := Int32.not_le.mp v2
        exact ST_mk ⟨Nat.le_of_ble_eq_true rfl, Nat.le_of_ble_eq_true rfl, rfl, rfl⟩ ⟨Nat.le_of_ble_eq_true rfl, Nat.le_of_ble_eq_true rfl, rfl, rfl⟩ (c_X8_drifts_bad V ad X0 X1 X2 X3 X4 Hs L z b c d u lt sv A B x s kp U Y n o m k hI.okC l w (fun g => v2 g.2.2)) (c_X9_drifts_bad V ad2 nw rw ps im kp L sw svv da co pl me fa ao al ax ta ts tv il s z k n o m hI.okM l w (fun g => g.2.2 v2')) rfl ⟨X0, X1, X2, X3, X4, Hs, L, z, b, c, d, u, lt, sv, A, B, x, s, kp, U, Y, nw, rw, ps, im, sw, svv, da, co, pl, me, fa, ao, al, ax, ta, ts, tv, il, k, n, o, m, v, rfl, rfl, hI⟩
set_option maxRecDepth 100000 in
set_option maxHeartbeats 4000000 in
theorem st_measures {V : VT} {ad : Nat → Nat → Nat} {ad2 : Nat → Nat} {CW MW : va_W} (hJ : JX V ad ad2 CW MW) : ST V ad ad2 yX8_measures cX8_measures 2 yX9_measures cX9_measures 6 [] CW MW := by
  obtain ⟨X0, X1, X2, X3, X4, Hs, L, z, b, c, d, u, lt, sv, A, B, x, s, kp, U, Y, nw, rw, ps, im, sw, svv, da, co, pl, me, fa, ao, al, ax, ta, ts, tv, il, k, n, o, m, v, rfl, rfl, hI⟩ := hJ
  have hn6 := hI.1.1.1.1.2.2
  have te := turn_eq hI.1.1
  have le1 := mL_le nw (nw 16) n
  have le2 := mB_le nw (nw 16) n
  have t0 := bw_T0 n (by omega) (mL nw (nw 16) n) (by omega) (mB nw (nw 16) n) (by omega)
  by_cases g : mL nw (nw 16) n = 0 ∧ mB nw (nw 16) n = n
  · have h1 : rTurn X0 n m = 0 := by rw [te]; exact t0.mpr g
    exact ST_mk ⟨Nat.le_of_ble_eq_true rfl, Nat.le_of_ble_eq_true rfl, rfl, rfl⟩ ⟨Nat.le_of_ble_eq_true rfl, Nat.le_of_ble_eq_true rfl, rfl, rfl⟩ (c_X8_measures_state V ad X0 X1 X2 X3 X4 Hs L z b c d u lt sv A B x s kp U Y n o m k hI.okC h1) (c_X9_measures_state V ad2 nw rw ps im kp L sw svv da co pl me fa ao al ax ta ts tv il s z k n o m hI.okM g.1 g.2) rfl ⟨X0, X1, X2, X3, X4, Hs, L, z, b, c, d, u, lt, sv, A, B, x, s, kp, U, Y, nw, rw, ps, im, sw, svv, da, co, pl, me, fa, ao, al, ax, ta, ts, tv, il, k, n, o, m, v, rfl, rfl, hI⟩
  · have h1 : ¬ rTurn X0 n m = 0 := by rw [te]; exact fun y => g (t0.mp y)
    have r := learn_eq hI.1.1 le1 le2
    rw [← te] at r
    have e : bcnt (rTurn X0 n m) = (mMe (mL nw (nw 16) n) (mB nw (nw 16) n) nw n).2 := by
      rw [mMe_2, te]
      exact bw_Tc n (by omega) _ (by omega) _ (by omega)
    have hl : rLm (rLearn X0 (rTurn X0 n m) n) := by unfold rLm; rw [r.2]; exact hI.1.2.2
    exact ST_mk ⟨Nat.le_of_ble_eq_true rfl, Nat.le_of_ble_eq_true rfl, rfl, rfl⟩ ⟨Nat.le_of_ble_eq_true rfl, Nat.le_of_ble_eq_true rfl, rfl, rfl⟩ (c_X8_measures_ok V ad X0 X1 X2 X3 X4 Hs L z b c d u lt sv A B x s kp U Y n o m k hI.okC h1) (c_X9_measures_ok V ad2 nw rw ps im kp L sw svv da co pl me fa ao al ax ta ts tv il s z k n o m hI.okM g) e ⟨rLearn X0 (rTurn X0 n m) n, X1, X2, X3, X4, va_up Hs x (rCopy (Hs x) X0), L, z, b, c, d, u, lt, sv, A, B, (x + 1) % 6, hsz s, kp, U, Y, (mMe (mL nw (nw 16) n) (mB nw (nw 16) n) nw n).1, rw, mNo nw ps s, im, sw, svv, da, co, pl, me, fa, ao, al, ax, ta, ts, tv, il, k, n, o, m, v, rfl, rfl, IV_push hI ⟨r.1, hI.1.2.1, hl⟩⟩
set_option maxRecDepth 100000 in
set_option maxHeartbeats 4000000 in
theorem st_undo {V : VT} {ad : Nat → Nat → Nat} {ad2 : Nat → Nat} {CW MW : va_W} (hJ : JX V ad ad2 CW MW) : ST V ad ad2 yX8_undo cX8_undo 1 yX9_undo cX9_undo 1 [] CW MW := by
  obtain ⟨X0, X1, X2, X3, X4, Hs, L, z, b, c, d, u, lt, sv, A, B, x, s, kp, U, Y, nw, rw, ps, im, sw, svv, da, co, pl, me, fa, ao, al, ax, ta, ts, tv, il, k, n, o, m, v, rfl, rfl, hI⟩ := hJ
  obtain ⟨hx, hs6, hh, hb⟩ := hI.2.2.1
  by_cases h1 : s = 0
  · exact ST_mk ⟨Nat.le_of_ble_eq_true rfl, Nat.le_of_ble_eq_true rfl, rfl, rfl⟩ ⟨Nat.le_of_ble_eq_true rfl, Nat.le_of_ble_eq_true rfl, rfl, rfl⟩ (c_X8_undo_state V ad X0 X1 X2 X3 X4 Hs L z b c d u lt sv A B x s kp U Y n o m k hI.okC h1) (c_X9_undo_state V ad2 nw rw ps im kp L sw svv da co pl me fa ao al ax ta ts tv il s z k n o m hI.okM h1) rfl ⟨X0, X1, X2, X3, X4, Hs, L, z, b, c, d, u, lt, sv, A, B, x, s, kp, U, Y, nw, rw, ps, im, sw, svv, da, co, pl, me, fa, ao, al, ax, ta, ts, tv, il, k, n, o, m, v, rfl, rfl, hI⟩
  · have p := HR_pop (nw := nw) (X0 := X0) hh hx hs6 (by omega)
    obtain ⟨n', o', m', v', g⟩ := p.2
    exact ST_mk ⟨Nat.le_of_ble_eq_true rfl, Nat.le_of_ble_eq_true rfl, rfl, rfl⟩ ⟨Nat.le_of_ble_eq_true rfl, Nat.le_of_ble_eq_true rfl, rfl, rfl⟩ (c_X8_undo_ok V ad X0 X1 X2 X3 X4 Hs L z b c d u lt sv A B x s kp U Y n o m k hI.okC (by omega)) (c_X9_undo_ok V ad2 nw rw ps im kp L sw svv da co pl me fa ao al ax ta ts tv il s z k n o m hI.okM (by omega)) rfl ⟨rCopy X0 (Hs ((x + 5) % 6)), X1, X2, X3, X4, Hs, L, z, b, c, d, u, lt, sv, A, B, (x + 5) % 6, s - 1, kp, U, Y, brg ps nw (99 * (s - 1)) 0 99, rw, ps, im, sw, svv, da, co, pl, me, fa, ao, al, ax, ta, ts, tv, il, k, n', o', m', v', rfl, rfl, ⟨g, hI.2.1, ⟨Nat.mod_lt _ (by decide), by omega, p.1, hb⟩, hI.2.2.2⟩⟩
