/-! The law: rows of its own, calls on both sides -/
def CxL (K : KT) (b L : Nat) (xs : Nat → Int32) : Prop := match K with
  | (_, _, _, s, _, _, _, _, _, A, H0, _) => va_X b L xs s H0 ∧ b < H0.size ∧ ¬ A b
def axl (ad : Nat → Nat → Nat) : List Nat := [ad 12 6, ad 0 0, ad 0 1, ad 0 2, ad 0 3, ad 0 4, ad 0 5, ad 1 0, ad 1 1, ad 1 2, ad 1 3, ad 1 4, ad 1 5, ad 2 0, ad 2 1, ad 2 2, ad 2 3, ad 2 4, ad 2 5, ad 11 0, ad 11 1, ad 12 0, ad 12 1, ad 13 0, ad 13 1, ad 13 2, ad 13 3, ad 14 0, ad 14 1, ad 14 2, ad 14 3, ad 12 2, ad 12 3, ad 5 0, ad 5 1, ad 5 2, ad 5 3, ad 5 4, ad 5 5, ad 6 0, ad 6 1, ad 6 2, ad 6 3, ad 6 4, ad 6 5, ad 7 0, ad 7 1, ad 7 2, ad 7 3, ad 7 4, ad 7 5, ad 8 0, ad 8 1, ad 8 2, ad 8 3, ad 8 4, ad 8 5, ad 9 0, ad 9 1, ad 9 2, ad 9 3, ad 9 4, ad 9 5, ad 10 0, ad 10 1, ad 10 2, ad 10 3, ad 10 4, ad 10 5, ad 12 4, ad 3 0, ad 3 1, ad 3 2, ad 3 3, ad 3 4, ad 3 5, ad 4 0, ad 4 1, ad 4 2, ad 4 3, ad 4 4, ad 4 5, ad 12 5, ad 15 0, ad 15 1, ad 15 2, ad 16 0, ad 16 1, ad 16 2]
def aml (ad2 : Nat → Nat) : List Nat := [ad2 0, ad2 1, ad2 2, ad2 3, ad2 4, ad2 5, ad2 6, ad2 7, ad2 8, ad2 9, ad2 10, ad2 11, ad2 12, ad2 13, ad2 14, ad2 15]
set_option maxRecDepth 100000 in
theorem JX_ad {V : VT} {ad : Nat → Nat → Nat} {ad2 : Nat → Nat} {CW MW : va_W} (h : JX V ad ad2 CW MW) : (CW.map (fun c => c.1) = axl ad ∧ MW.map (fun c => c.1) = aml ad2) ∧ (∃ fs, CW[0]? = some (ad 12 6, .inr (8, fs))) ∧ ∃ fs, MW[0]? = some (ad2 0, .inr (9, fs)) := by
  obtain ⟨X0, X1, X2, X3, X4, Hs, L, z, b, c, d, u, lt, sv, A, B, x, s, kp, U, Y, nw, rw, ps, im, sw, svv, da, co, pl, me, fa, ao, al, ax, ta, ts, tv, il, k, n, o, m, v, rfl, rfl, hI⟩ := h
  exact ⟨⟨rfl, rfl⟩, ⟨_, rfl⟩, ⟨_, rfl⟩⟩
section RLW
variable {V : VT} {K : KT} {nL nc ns : Nat} {ws CW MW CW' MW' : va_W} {pc : Nat} {lv : List (Nat × Value)} {st rest : List Value} {cc : ByteArray} {own : String} {rm : Room} {b L : Nat} {xs : Nat → Int32}
theorem g_sld {i : Int32} {j : Nat} (cx : Cx V K nL cc own rm) (hX : CxL K b L xs) (hi : i = nI j) (hj : j < L) (hL : L ≤ 2048) (hd : decode cc pc = .ok (.iaload, 1)) (k : G V K nL nc ns ws (pc + 1) lv (.int (xs j) :: st)) : G V K nL nc ns ws pc lv (.int i :: .ref b :: st) := by
  obtain ⟨l, D, cy⟩ := V; obtain ⟨p, e, R, s, m, args, below, meth, c, A, H0, Q⟩ := K
  obtain ⟨hx, hb, hml, hown, ht, hK, hN, hlk, hR, hA⟩ := cx
  obtain ⟨x1, x2, x3⟩ := hX
  subst hi
  intro H locs ls hP hD hS hl
  refine va_sld hx hb x1 x2 x3 hS (pk_in j L hj rfl (by omega)) hd ?_
  rw [nI_clamp (by omega)]
  exact k H locs ls hP hD hS hl
theorem g_slen (cx : Cx V K nL cc own rm) (hX : CxL K b L xs) (hd : decode cc pc = .ok (.arraylength, 1)) (k : G V K nL nc ns ws (pc + 1) lv (.int (nI L) :: st)) : G V K nL nc ns ws pc lv (.ref b :: st) := by
  obtain ⟨l, D, cy⟩ := V; obtain ⟨p, e, R, s, m, args, below, meth, c, A, H0, Q⟩ := K
  obtain ⟨hx, hb, hml, hown, ht, hK, hN, hlk, hR, hA⟩ := cx
  obtain ⟨x1, x2, x3⟩ := hX
  intro H locs ls hP hD hS hl
  exact va_slen hx hb x1 x2 x3 hS hd (k H locs ls hP hD hS hl)
variable {y : MethodName} {c2 : ByteArray} {maxL : Nat} {rm2 : Room} {a : Nat} {As : List Value} {idx n : Nat} {r : Int32} {al : List Nat}
/-- a call on the component -/
theorem lx_x (cx : Cx V K nL cc own rm) (hr : rmS rm2) (h0 : ∃ fs, CW[0]? = some (a, .inr (8, fs))) (ha : CW.map (fun c => c.1) = al) (ha' : CW'.map (fun c => c.1) = al) (hM : CI V y c2 maxL .int rm2 (.ref a :: As) CW (fun r_ w_ => r_ = r ∧ w_ = CW')) (hl : MLk own idx y c2 maxL (some .int) n) (hy : RX8 = y.cls) (hd : decode cc pc = .ok (.invokevirtual idx, 3)) (hst : st = As.reverse ++ .ref a :: rest) (hlen : As.length = n) (hroom : (rest.map fun v => v.category).sum ≤ 8) (hm : maxL ≤ 20) (hf : 10 ≤ rm.frames ∧ 240 ≤ rm.locals) (hcs : nc ≤ rm.cells ∧ ns ≤ rm.slots)
    (k : G V K nL nc ns [CW', MW].flatten (pc + 3) lv (.int r :: rest)) : G V K nL nc ns [CW, MW].flatten pc lv st := by
  obtain ⟨fs, h0⟩ := h0
  obtain ⟨r1, r2, r3, r4⟩ := hr
  refine b_calli (wcs := [CW]) (wos := [CW']) cx hM hl hd [0] rfl rfl (by simp) (by simp) [al] (by simp [ha']) (by simp [ha]) rfl 0 0 8 rfl h0 rfl hy hst hlen hroom ⟨by omega, by omega⟩ ⟨by omega, by omega⟩ ?_
  rw [r3, r4]
  exact k
/-- a call on the reference -/
theorem lx_m (cx : Cx V K nL cc own rm) (hr : rmS rm2) (h0 : ∃ fs, MW[0]? = some (a, .inr (9, fs))) (ha : MW.map (fun c => c.1) = al) (ha' : MW'.map (fun c => c.1) = al) (hM : CI V y c2 maxL .int rm2 (.ref a :: As) MW (fun r_ w_ => r_ = r ∧ w_ = MW')) (hl : MLk own idx y c2 maxL (some .int) n) (hy : RX9 = y.cls) (hd : decode cc pc = .ok (.invokevirtual idx, 3)) (hst : st = As.reverse ++ .ref a :: rest) (hlen : As.length = n) (hroom : (rest.map fun v => v.category).sum ≤ 8) (hm : maxL ≤ 20) (hf : 10 ≤ rm.frames ∧ 240 ≤ rm.locals) (hcs : nc ≤ rm.cells ∧ ns ≤ rm.slots)
    (k : G V K nL nc ns [CW, MW'].flatten (pc + 3) lv (.int r :: rest)) : G V K nL nc ns [CW, MW].flatten pc lv st := by
  obtain ⟨fs, h0⟩ := h0
  obtain ⟨r1, r2, r3, r4⟩ := hr
  refine b_calli (wcs := [MW]) (wos := [MW']) cx hM hl hd [1] rfl rfl (by simp) (by simp) [al] (by simp [ha']) (by simp [ha]) rfl 0 0 9 rfl h0 rfl hy hst hlen hroom ⟨by omega, by omega⟩ ⟨by omega, by omega⟩ ?_
  rw [r3, r4]
  exact k
end RLW
