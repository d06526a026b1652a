/-! Calls whose callee has the caller's whole world -/
section RWA
variable {V : VT} {K : KT} {nL nc ns : Nat} {ws ws' : va_W} {pc : Nat} {lv lv' : List (Nat × Value)} {st rest : List Value} {cc : ByteArray} {own : String} {rm : Room}
variable {y : MethodName} {c2 : ByteArray} {maxL : Nat} {ty : FieldType} {rm2 : Room} {b : Nat} {As : List Value} {idx n : Nat}
theorem w_calli {r0 : Int32} (cx : Cx V K nL cc own rm) (hM : CI V y c2 maxL ty rm2 (.ref b :: As) ws (fun r w => r = r0 ∧ w = ws')) (hl : MLk own idx y c2 maxL (some ty) n) (hd : decode cc pc = .ok (.invokevirtual idx, 3)) {q0 ci : Nat} {fs : List Value} {q : vw_C} (hq0 : ws[q0]? = some (b, .inr (ci, fs))) (hci : vwCl[ci]? = some q) (hqc : q.1 = y.cls) (hst : st = As.reverse ++ .ref b :: rest) (hlen : As.length = n) (hroom : (rest.map fun v => v.category).sum ≤ 8) (hfr : (rm2.frames + 1 ≤ rm.frames ∧ 8 + (maxL + 11) + rm2.locals ≤ rm.locals)) (hcs : nc + rm2.cells ≤ rm.cells ∧ ns + rm2.slots ≤ rm.slots)
    (k : G V K nL (nc + rm2.cells) (ns + rm2.slots) ws' (pc + 3) lv (.int r0 :: rest)) : G V K nL nc ns ws pc lv st := by
  subst hst
  obtain ⟨l, D, cy⟩ := V; obtain ⟨p, e, R, s, m, args, below, meth, c, A, H0, Q⟩ := K
  obtain ⟨hx, hb, hml, hown, ht, hK, hN, hlk, hR, hA⟩ := cx
  subst hR
  obtain ⟨m1, m2, m3, m4, m5, m6, m7, m8⟩ := hl
  intro H locs ls hP hD hS hl
  have hFc : ∀ q, va_A ws H.size q → A q := fun q h => by
    rcases h with ⟨k, e, h⟩ | h
    · exact hD.2 k (q, e) h
    · exact hA q (Nat.le_trans hS.1 h)
  have hrecv := va_recv hK hP hci hq0
  have hgi : GoodIn lw_good (wsV own idx y.cls y (.code y c2 maxL (some ty) :: lw_good)) := rf_good_in (fun w hw => by
    simp only [wsV, List.cons_append, List.nil_append, List.mem_cons] at hw
    rcases hw with rfl | rfl | rfl | rfl | rfl | hw
    · exact m1
    · exact m2
    · exact m3
    · exact m4
    · exact m5
    · exact hw)
  refine va_calli (va_runV (As := As) (rest := rest) ⟨hx, hb, hml, hown, ht⟩ (hM H.size) (cwV n ht hgi rfl rfl rfl ⟨rfl, m6, m7, m8⟩ hfr) ⟨rf_P.blind, by rw [← hqc]; exact hrecv, fun U hU hW => ⟨rfl, by rw [hU], by rw [hU]; exact hP, va_K.moved hW.alike hK, hN.warm hW, hD.weaken (fun _ _ _ _ => trivial)⟩⟩ rfl hlen hl.1 rfl (lv_room hroom) hd hcs) hS (fun q _ h => hFc q h) hFc (fun r w t H1 locs1 e1 hvm hpost hB hz hk hS1 => ?_)
  obtain ⟨rfl, rfl⟩ := hpost
  obtain ⟨hP1, hD1⟩ := hB
  rw [e1] at hP1
  exact k H1 locs1 ls hP1 (hD1.weaken (fun _ q _ h => hFc q.1 h)) hS1 hl
theorem w_callv (cx : Cx V K nL cc own rm) (hM : CV V y c2 maxL rm2 (.ref b :: As) ws (fun w => w = ws')) (hl : MLk own idx y c2 maxL none n) (hd : decode cc pc = .ok (.invokevirtual idx, 3)) {q0 ci : Nat} {fs : List Value} {q : vw_C} (hq0 : ws[q0]? = some (b, .inr (ci, fs))) (hci : vwCl[ci]? = some q) (hqc : q.1 = y.cls) (hst : st = As.reverse ++ .ref b :: rest) (hlen : As.length = n) (hroom : (rest.map fun v => v.category).sum ≤ 8) (hfr : (rm2.frames + 1 ≤ rm.frames ∧ 8 + (maxL + 11) + rm2.locals ≤ rm.locals)) (hcs : nc + rm2.cells ≤ rm.cells ∧ ns + rm2.slots ≤ rm.slots)
    (k : G V K nL (nc + rm2.cells) (ns + rm2.slots) ws' (pc + 3) lv rest) : G V K nL nc ns ws pc lv st := by
  subst hst
  obtain ⟨l, D, cy⟩ := V; obtain ⟨p, e, R, s, m, args, below, meth, c, A, H0, Q⟩ := K
  obtain ⟨hx, hb, hml, hown, ht, hK, hN, hlk, hR, hA⟩ := cx
  subst hR
  obtain ⟨m1, m2, m3, m4, m5, m6, m7, m8⟩ := hl
  intro H locs ls hP hD hS hl
  have hFc : ∀ q, va_A ws H.size q → A q := fun q h => by
    rcases h with ⟨k, e, h⟩ | h
    · exact hD.2 k (q, e) h
    · exact hA q (Nat.le_trans hS.1 h)
  have hrecv := va_recv hK hP hci hq0
  have hgi : GoodIn lw_good (wsV own idx y.cls y (.code y c2 maxL none :: lw_good)) := rf_good_in (fun w hw => by
    simp only [wsV, List.cons_append, List.nil_append, List.mem_cons] at hw
    rcases hw with rfl | rfl | rfl | rfl | rfl | hw
    · exact m1
    · exact m2
    · exact m3
    · exact m4
    · exact m5
    · exact hw)
  refine va_callv (va_runV (As := As) (rest := rest) ⟨hx, hb, hml, hown, ht⟩ (hM H.size) (cwV n ht hgi rfl rfl rfl ⟨rfl, m6, m7, m8⟩ hfr) ⟨rf_P.blind, by rw [← hqc]; exact hrecv, fun U hU hW => ⟨rfl, by rw [hU], by rw [hU]; exact hP, va_K.moved hW.alike hK, hN.warm hW, hD.weaken (fun _ _ _ _ => trivial)⟩⟩ rfl hlen hl.1 rfl (lv_room hroom) hd hcs) hS (fun q _ h => hFc q h) hFc (fun w t H1 locs1 e1 hvm hpost hB hz hk hS1 => ?_)
  subst hpost
  obtain ⟨hP1, hD1⟩ := hB
  rw [e1] at hP1
  exact k H1 locs1 ls hP1 (hD1.weaken (fun _ q _ h => hFc q.1 h)) hS1 hl
end RWA
