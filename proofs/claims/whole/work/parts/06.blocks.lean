/-! Numbers, states as rows of ints, the objects' cells -/
abbrev S2 : Type := Nat → Nat → Int32
def u2 (R : S2) (i j : Nat) (v : Int32) : S2 := va_up R i (upd (R i) j v)
def u1 (R : S2) (i : Nat) (f : Nat → Int32) : S2 := va_up R i f
def bI (P : Prop) [Decidable P] : Int32 := if P then 1 else 0
theorem bI_t {P : Prop} [Decidable P] (h : P) : 1 = bI P := by simp [bI, h]
theorem bI_f {P : Prop} [Decidable P] (h : ¬ P) : 0 = bI P := by simp [bI, h]
theorem rf_bnar {P : Prop} [Decidable P] : narrow .boolean (.int (bI P)) = .int (bI P) := by by_cases h : P <;> simp only [bI, h, if_true, if_false] <;> rfl
theorem nl (n : Nat) : (OfNat.ofNat n : Int32) = nI n := rfl
theorem rf_add {x y : Int32} {a b : Nat} (hx : x = nI a) (hy : y = nI b) : x + y = nI (a + b) := by rw [hx, hy, nI_add]
theorem rf_mul {x y : Int32} {a b : Nat} (hx : x = nI a) (hy : y = nI b) : x * y = nI (a * b) := by rw [hx, hy, pk_mul]
theorem rf_sub {x y : Int32} {a b : Nat} (hx : x = nI a) (hy : y = nI b) (h : b ≤ a) : x - y = nI (a - b) := by rw [hx, hy, pk_sub h]
section RFN
variable {x y : Int32} {a b : Nat}
theorem rf_eqP (hx : x = nI a) (hy : y = nI b) (ha : a < 2147483648) (hb : b < 2147483648) (h : x = y) : a = b := by subst hx; subst hy; exact (nI_eq ha hb).mp h
theorem rf_eqN (hx : x = nI a) (hy : y = nI b) (ha : a < 2147483648) (hb : b < 2147483648) (h : ¬ x = y) : ¬ a = b := by subst hx; subst hy; exact fun e => h (by rw [e])
theorem rf_ltP (hx : x = nI a) (hy : y = nI b) (ha : a < 2147483648) (hb : b < 2147483648) (h : x < y) : a < b := by subst hx; subst hy; exact (nI_ltI ha hb).mp h
theorem rf_ltN (hx : x = nI a) (hy : y = nI b) (ha : a < 2147483648) (hb : b < 2147483648) (h : ¬ x < y) : ¬ a < b := by subst hx; subst hy; exact fun e => h ((nI_ltI ha hb).mpr e)
theorem rf_geP (hx : x = nI a) (hy : y = nI b) (ha : a < 2147483648) (hb : b < 2147483648) (h : y ≤ x) : b ≤ a := by subst hx; subst hy; exact (nI_leI hb ha).mp h
theorem rf_geN (hx : x = nI a) (hy : y = nI b) (ha : a < 2147483648) (hb : b < 2147483648) (h : ¬ y ≤ x) : ¬ b ≤ a := by subst hx; subst hy; exact fun e => h ((nI_leI hb ha).mpr e)
theorem rf_gtP (hx : x = nI a) (hy : y = nI b) (ha : a < 2147483648) (hb : b < 2147483648) (h : y < x) : b < a := by subst hx; subst hy; exact (nI_ltI hb ha).mp h
theorem rf_gtN (hx : x = nI a) (hy : y = nI b) (ha : a < 2147483648) (hb : b < 2147483648) (h : ¬ y < x) : ¬ b < a := by subst hx; subst hy; exact fun e => h ((nI_ltI hb ha).mpr e)
theorem rf_leP (hx : x = nI a) (hy : y = nI b) (ha : a < 2147483648) (hb : b < 2147483648) (h : x ≤ y) : a ≤ b := by subst hx; subst hy; exact (nI_leI ha hb).mp h
theorem rf_leN (hx : x = nI a) (hy : y = nI b) (ha : a < 2147483648) (hb : b < 2147483648) (h : ¬ x ≤ y) : ¬ a ≤ b := by subst hx; subst hy; exact fun e => h ((nI_leI ha hb).mpr e)
theorem rf_ltMP (hx : x = nI a) (hy : y = nI b) (ha : a < 2147483648) (hb : b < 2147483648) (h : a < b) : x < y := by subst hx; subst hy; exact (nI_ltI ha hb).mpr h
theorem rf_ltMN (hx : x = nI a) (hy : y = nI b) (ha : a < 2147483648) (hb : b < 2147483648) (h : ¬ a < b) : ¬ x < y := by subst hx; subst hy; exact fun e => h ((nI_ltI ha hb).mp e)
theorem rf_geMP (hx : x = nI a) (hy : y = nI b) (ha : a < 2147483648) (hb : b < 2147483648) (h : b ≤ a) : y ≤ x := by subst hx; subst hy; exact (nI_leI hb ha).mpr h
theorem rf_geMN (hx : x = nI a) (hy : y = nI b) (ha : a < 2147483648) (hb : b < 2147483648) (h : ¬ b ≤ a) : ¬ y ≤ x := by subst hx; subst hy; exact fun e => h ((nI_leI hb ha).mp e)
theorem rf_gtMP (hx : x = nI a) (hy : y = nI b) (ha : a < 2147483648) (hb : b < 2147483648) (h : b < a) : y < x := by subst hx; subst hy; exact (nI_ltI hb ha).mpr h
theorem rf_gtMN (hx : x = nI a) (hy : y = nI b) (ha : a < 2147483648) (hb : b < 2147483648) (h : ¬ b < a) : ¬ y < x := by subst hx; subst hy; exact fun e => h ((nI_ltI hb ha).mp e)
theorem rf_leMP (hx : x = nI a) (hy : y = nI b) (ha : a < 2147483648) (hb : b < 2147483648) (h : a ≤ b) : x ≤ y := by subst hx; subst hy; exact (nI_leI ha hb).mpr h
theorem rf_leMN (hx : x = nI a) (hy : y = nI b) (ha : a < 2147483648) (hb : b < 2147483648) (h : ¬ a ≤ b) : ¬ x ≤ y := by subst hx; subst hy; exact fun e => h ((nI_leI ha hb).mp e)
theorem rf_eqMP (hx : x = nI a) (hy : y = nI b) (ha : a < 2147483648) (hb : b < 2147483648) (h : a = b) : x = y := by subst hx; subst hy; exact (nI_eq ha hb).mpr h
theorem rf_eqMN (hx : x = nI a) (hy : y = nI b) (ha : a < 2147483648) (hb : b < 2147483648) (h : ¬ a = b) : ¬ x = y := by subst hx; subst hy; exact fun e => h ((nI_eq ha hb).mp e)
end RFN
/-! the cells -/
abbrev wArr (V : VT) (a n : Nat) (f : Nat → Int32) : va_W := [(a, .inl (V.2.2 0, n, .inl f))]
abbrev wRing (V : VT) (ad : Nat → Nat) (R : S2) : va_W := [(ad 0, .inr (3, [.ref (ad 1), .ref (ad 2), .ref (ad 3), .ref (ad 4), .ref (ad 5), .int (R 5 0), .int (R 5 1), .int (R 5 2), .int (R 5 3), .int (R 5 4), .int (R 5 5), .int (R 5 6)])), (ad 1, .inl (V.2.2 0, 54, .inl (R 0))), (ad 2, .inl (V.2.2 0, 14, .inl (R 1))), (ad 3, .inl (V.2.2 0, 20, .inl (R 2))), (ad 4, .inl (V.2.2 0, 8, .inl (R 3))), (ad 5, .inl (V.2.2 0, 2, .inl (R 4)))]
abbrev wText (V : VT) (ad : Nat → Nat) (T : S2) : va_W := [(ad 0, .inr (7, [.ref (ad 1), .int (T 1 0), .int (T 1 1), .int (T 1 2), .int (T 1 3), .int (T 1 4)])), (ad 1, .inl (V.2.2 0, 120, .inl (T 0)))]
abbrev wTx (V : VT) (ad : Nat → Nat) (L : Nat → Int32) (a b c d e : Int32) : va_W := [(ad 0, .inr (7, [.ref (ad 1), .int a, .int b, .int c, .int d, .int e])), (ad 1, .inl (V.2.2 0, 120, .inl L))]
abbrev wRd (a tx : Nat) (v : Int32) : va_W := [(a, .inr (2, [.ref tx, .int v]))]
abbrev wSd (a ca cb : Nat) (v : Int32) : va_W := [(a, .inr (4, [.ref ca, .ref cb, .int v]))]
abbrev wReader (a tx : Nat) (L : S2) : va_W := [(a, .inr (2, [.ref tx, .int (L 0 0)]))]
abbrev wCopy (V : VT) (ad : Nat → Nat) (C : S2) : va_W := [(ad 0, .inr (0, [.ref (ad 1), .ref (ad 2), .ref (ad 3)])), (ad 1, .inl (V.2.2 0, 4, .inl (C 0))), (ad 2, .inl (V.2.2 0, 4, .inl (C 1))), (ad 3, .inl (V.2.2 0, 4, .inl (C 2)))]
abbrev wSender (a ca cb : Nat) (Z : S2) : va_W := [(a, .inr (4, [.ref ca, .ref cb, .int (Z 0 0)]))]
abbrev wSight (V : VT) (ad : Nat → Nat) (U : S2) : va_W := [(ad 0, .inr (5, [.ref (ad 1), .ref (ad 2), .int (U 2 0)])), (ad 1, .inl (V.2.2 0, 6, .inl (U 0))), (ad 2, .inl (V.2.2 0, 6, .inl (U 1)))]
abbrev wSusp (V : VT) (ad : Nat → Nat) (Y : S2) : va_W := [(ad 0, .inr (6, [.ref (ad 1), .ref (ad 2), .int (Y 2 0)])), (ad 1, .inl (V.2.2 0, 7, .inl (Y 0))), (ad 2, .inl (V.2.2 0, 42, .inl (Y 1)))]
abbrev wModel (V : VT) (ad : Nat → Nat) (M : S2) : va_W := [(ad 0, .inr (9, [.ref (ad 1), .ref (ad 2), .ref (ad 3), .int (M 3 0), .ref (ad 4), .ref (ad 5), .ref (ad 6), .int (M 7 0), .int (M 8 0), .int (M 9 0), .int (M 10 0), .int (M 11 0), .ref (ad 7), .ref (ad 8), .int (M 14 0), .int (M 15 0), .ref (ad 9), .ref (ad 10), .ref (ad 11), .ref (ad 12), .ref (ad 13), .ref (ad 14), .ref (ad 15)])), (ad 1, .inl (V.2.2 0, 99, .inl (M 0))), (ad 2, .inl (V.2.2 0, 99, .inl (M 1))), (ad 3, .inl (V.2.2 0, 594, .inl (M 2))), (ad 4, .inl (V.2.2 0, 198, .inl (M 4))), (ad 5, .inl (V.2.2 1, 2, .inl (M 5))), (ad 6, .inl (V.2.2 0, 120, .inl (M 6))), (ad 7, .inl (V.2.2 0, 6, .inl (M 12))), (ad 8, .inl (V.2.2 0, 6, .inl (M 13))), (ad 9, .inl (V.2.2 0, 8, .inl (M 16))), (ad 10, .inl (V.2.2 0, 8, .inl (M 17))), (ad 11, .inl (V.2.2 0, 4, .inl (M 18))), (ad 12, .inl (V.2.2 1, 6, .inl (M 19))), (ad 13, .inl (V.2.2 0, 6, .inl (M 20))), (ad 14, .inl (V.2.2 0, 99, .inl (M 21))), (ad 15, .inl (V.2.2 0, 42, .inl (M 22)))]
section RFG2
variable {V : VT} {K : KT} {nL nc ns : Nat} {ws ws' : va_W} {pc : Nat} {lv lv' : List (Nat × Value)} {st : List Value} {cc : ByteArray} {own : String} {rm : Room}
theorem g_if_eq_b {P : Prop} [Decidable P] {off : Int} (cx : Cx V K nL cc own rm) (tgt : Nat) (hd : decode cc pc = .ok (.ifCond .eq off, 3)) (ht0 : (pc : Int) + off = (tgt : Int)) (kt : ¬ P → G V K nL nc ns ws tgt lv st) (kf : P → G V K nL nc ns ws (pc + 3) lv st) : G V K nL nc ns ws pc lv (.int (bI P) :: st) :=
  g_if_eq cx tgt hd ht0 (fun h => kt (fun p => by simp [bI, p] at h)) (fun h => kf (Decidable.byContradiction (fun p => h (by simp [bI, p]))))
theorem g_if_ne_b {P : Prop} [Decidable P] {off : Int} (cx : Cx V K nL cc own rm) (tgt : Nat) (hd : decode cc pc = .ok (.ifCond .ne off, 3)) (ht0 : (pc : Int) + off = (tgt : Int)) (kt : P → G V K nL nc ns ws tgt lv st) (kf : ¬ P → G V K nL nc ns ws (pc + 3) lv st) : G V K nL nc ns ws pc lv (.int (bI P) :: st) :=
  g_if_ne cx tgt hd ht0 (fun h => kt (Decidable.byContradiction (fun p => h (by simp [bI, p])))) (fun h => kf (fun p => by simp [bI, p] at h))
theorem g_mmin {x y : Int32} {idx : Nat} (cx : Cx V K nL cc own rm) (hl : MLs own idx yJ9_min_7cf53 cJ9_min_7cf53 2 (some .int) 2) (hd : decode cc pc = .ok (.invokestatic idx, 3)) (hf : 1 ≤ rm.frames) (hlo : (st.map fun v => v.category).sum + 13 ≤ rm.locals) (hc : nc ≤ rm.cells) (hs : ns ≤ rm.slots) (k : G V K nL nc ns ws (pc + 3) lv (.int (if y < x then y else x) :: st)) : G V K nL nc ns ws pc lv (.int y :: .int x :: st) := by
  obtain ⟨l, D, cy⟩ := V; obtain ⟨p, e, R, s, m, args, below, meth, c, A, H0, Q⟩ := K
  obtain ⟨hx, hb, hml, hown, ht, hK, hN, hlk, hR, hA⟩ := cx
  subst hR
  obtain ⟨m1, m2, m3, m4, -⟩ := hl
  have e1 : cJ9_min_7cf53 = Lib.Math.min.code := by decide +kernel
  have e2 : yJ9_min_7cf53 = Lib.Math.min.name := by decide +kernel
  rw [e2] at m1 m2 m4
  rw [e1] at m4
  intro H locs ls hP hD hS hl
  exact va_mmin hx hb (hml.trans hl.1.symm) hown (ht _ m1) (ht _ m2) (ht _ m3) (ht _ m4) hf hlo hc hs hd (k H locs ls hP hD hS hl)
theorem g_mmax {x y : Int32} {idx : Nat} (cx : Cx V K nL cc own rm) (hl : MLs own idx yJ9_max_7cf53 cJ9_max_7cf53 2 (some .int) 2) (hd : decode cc pc = .ok (.invokestatic idx, 3)) (hf : 1 ≤ rm.frames) (hlo : (st.map fun v => v.category).sum + 13 ≤ rm.locals) (hc : nc ≤ rm.cells) (hs : ns ≤ rm.slots) (k : G V K nL nc ns ws (pc + 3) lv (.int (if x < y then y else x) :: st)) : G V K nL nc ns ws pc lv (.int y :: .int x :: st) := by
  obtain ⟨l, D, cy⟩ := V; obtain ⟨p, e, R, s, m, args, below, meth, c, A, H0, Q⟩ := K
  obtain ⟨hx, hb, hml, hown, ht, hK, hN, hlk, hR, hA⟩ := cx
  subst hR
  obtain ⟨m1, m2, m3, m4, -⟩ := hl
  have e1 : cJ9_max_7cf53 = Lib.Math.max.code := by decide +kernel
  have e2 : yJ9_max_7cf53 = Lib.Math.max.name := by decide +kernel
  rw [e2] at m1 m2 m4
  rw [e1] at m4
  intro H locs ls hP hD hS hl
  exact va_mmax hx hb (hml.trans hl.1.symm) hown (ht _ m1) (ht _ m2) (ht _ m3) (ht _ m4) hf hlo hc hs hd (k H locs ls hP hD hS hl)
/-- fewer locals, by their places -/
theorem g_lvk (ks : List Nat) (h : lv_pick lv ks = lv') (k : G V K nL nc ns ws pc lv' st) : G V K nL nc ns ws pc lv st := g_lv lv' (fun q hq => by
  rw [← h] at hq
  obtain ⟨i, -, hi⟩ := List.mem_filterMap.mp hq
  exact List.mem_of_getElem? hi) k
/-- System.arraycopy of a whole row -/
theorem g_copy {a0 a1 n idx : Nat} {f g : Nat → Int32} (cx : Cx V K nL cc own rm) (hl : Cond.methodLink own idx arraycopyName ∈ lw_good) (hd : decode cc pc = .ok (.invokestatic idx, 3)) (q0 q1 : Nat) (h0 : ws[q0]? = some (a0, .inl (V.2.2 0, n, .inl f))) (h1 : ws[q1]? = some (a1, .inl (V.2.2 0, n, .inl g))) {sp dp nn : Int32} (hsp : sp = nI 0) (hdp : dp = nI 0) (hnn : nn = nI n) (hn : n < 2 ^ 31) (hf : 1 ≤ rm.frames) (hlo : (st.map fun v => v.category).sum + (nativeFrameWords "java/lang/System" "arraycopy" 5 + 11) ≤ rm.locals) (hw : ws.set q1 (a1, .inl (V.2.2 0, n, .inl (va_cpy f g 0 0 n))) = ws') (k : G V K nL nc ns ws' (pc + 3) lv st) : G V K nL nc ns ws pc lv (.int nn :: .int dp :: .ref a1 :: .int sp :: .ref a0 :: st) := by
  obtain ⟨l, D, cy⟩ := V; obtain ⟨p, e, R, s, m, args, below, meth, c, A, H0, Q⟩ := K
  obtain ⟨hx, hb, hml, hown, ht, hK, hN, hlk, hR, hA⟩ := cx
  subst hR; subst hsp; subst hdp; subst hnn; subst hw
  intro H locs ls hP hD hS hl
  refine va_copyi hx hb (hml.trans hl.1.symm) hown (ht _ ‹_›) (ht _ acw_native) (ht _ acw_static) (ht _ zw_J10) hK hP hD hS q0 q1 0 0 h0 h1 rfl rfl rfl (nI_pos (by decide)) (nI_pos (by decide)) (nI_pos hn) (by rw [nI_clamp hn, nI_clamp (by decide)]; omega) (by rw [nI_clamp hn, nI_clamp (by decide)]; omega) (fun _ _ => rfl) hf hlo hd (fun H1 locs1 p1 d1 s1 => ?_)
  rw [nI_clamp hn, nI_clamp (by decide)] at p1 d1
  exact k H1 locs1 ls p1 d1 s1 hl
end RFG2
section RFK2
variable {V : VT} {K : KT} {nL nc ns : Nat} {ws ws' wc wo : va_W} {pc : Nat} {lv lv' : List (Nat × Value)} {st rest : List Value} {cc : ByteArray} {own : String} {rm : Room}
variable {y : MethodName} {c2 : ByteArray} {maxL : Nat} {ty : FieldType} {rm2 : Room} {b : Nat} {As : List Value} {idx n : Nat}
theorem k_calli {r0 : Int32} (cx : Cx V K nL cc own rm) (hM : CI V y c2 maxL ty rm2 (.ref b :: As) wc (fun r w => r = r0 ∧ w = wo)) (hl : MLk own idx y c2 maxL (some ty) n) (hd : decode cc pc = .ok (.invokevirtual idx, 3)) (is : List Nat) (hn : va_nd is = true) (hC : is.map (fun i => ws[i]?) = wc.map some) (al : List Nat) (ha1 : wo.map (fun c => c.1) = al) (ha2 : wc.map (fun c => c.1) = al) (hw : rf_rep ws is wo = ws') (q0 ci : Nat) {fs : List Value} {q : vw_C} (hq0 : wc[q0]? = some (b, .inr (ci, fs))) (hci : vwCl[ci]? = some q) (hqc : q.1 = y.cls) (hst : st = As.reverse ++ .ref b :: rest) (hlen : As.length = n) (hroom : (rest.map fun v => v.category).sum ≤ 8) (hfr : (rm2.frames + 1 ≤ rm.frames ∧ 8 + (maxL + 11) + rm2.locals ≤ rm.locals)) (hcs : nc + rm2.cells ≤ rm.cells ∧ ns + rm2.slots ≤ rm.slots)
    (k : G V K nL (nc + rm2.cells) (ns + rm2.slots) ws' (pc + 3) lv (.int r0 :: rest)) : G V K nL nc ns ws pc lv st := g_calli cx hM hl hd is hn hC (ha1.trans ha2.symm) hw q0 ci hq0 hci hqc hst hlen hroom hfr hcs k
theorem k_callv (cx : Cx V K nL cc own rm) (hM : CV V y c2 maxL rm2 (.ref b :: As) wc (fun w => w = wo)) (hl : MLk own idx y c2 maxL none n) (hd : decode cc pc = .ok (.invokevirtual idx, 3)) (is : List Nat) (hn : va_nd is = true) (hC : is.map (fun i => ws[i]?) = wc.map some) (al : List Nat) (ha1 : wo.map (fun c => c.1) = al) (ha2 : wc.map (fun c => c.1) = al) (hw : rf_rep ws is wo = ws') (q0 ci : Nat) {fs : List Value} {q : vw_C} (hq0 : wc[q0]? = some (b, .inr (ci, fs))) (hci : vwCl[ci]? = some q) (hqc : q.1 = y.cls) (hst : st = As.reverse ++ .ref b :: rest) (hlen : As.length = n) (hroom : (rest.map fun v => v.category).sum ≤ 8) (hfr : (rm2.frames + 1 ≤ rm.frames ∧ 8 + (maxL + 11) + rm2.locals ≤ rm.locals)) (hcs : nc + rm2.cells ≤ rm.cells ∧ ns + rm2.slots ≤ rm.slots)
    (k : G V K nL (nc + rm2.cells) (ns + rm2.slots) ws' (pc + 3) lv rest) : G V K nL nc ns ws pc lv st := g_callv cx hM hl hd is hn hC (ha1.trans ha2.symm) hw q0 ci hq0 hci hqc hst hlen hroom hfr hcs k
theorem k_callsi {r0 : Int32} (cx : Cx V K nL cc own rm) (hM : CI V y c2 maxL ty rm2 As wc (fun r w => r = r0 ∧ w = wo)) (hl : MLs own idx y c2 maxL (some ty) n) (hd : decode cc pc = .ok (.invokestatic idx, 3)) (is : List Nat) (hn : va_nd is = true) (hC : is.map (fun i => ws[i]?) = wc.map some) (al : List Nat) (ha1 : wo.map (fun c => c.1) = al) (ha2 : wc.map (fun c => c.1) = al) (hw : rf_rep ws is wo = ws') (hst : st = As.reverse ++ rest) (hlen : As.length = n) (hroom : (rest.map fun v => v.category).sum ≤ 8) (hfr : (rm2.frames + 1 ≤ rm.frames ∧ 8 + (maxL + 11) + rm2.locals ≤ rm.locals)) (hcs : nc + rm2.cells ≤ rm.cells ∧ ns + rm2.slots ≤ rm.slots)
    (k : G V K nL (nc + rm2.cells) (ns + rm2.slots) ws' (pc + 3) lv (.int r0 :: rest)) : G V K nL nc ns ws pc lv st := g_callsi cx hM hl hd is hn hC (ha1.trans ha2.symm) hw hst hlen hroom hfr hcs k
theorem k_callsv (cx : Cx V K nL cc own rm) (hM : CV V y c2 maxL rm2 As wc (fun w => w = wo)) (hl : MLs own idx y c2 maxL none n) (hd : decode cc pc = .ok (.invokestatic idx, 3)) (is : List Nat) (hn : va_nd is = true) (hC : is.map (fun i => ws[i]?) = wc.map some) (al : List Nat) (ha1 : wo.map (fun c => c.1) = al) (ha2 : wc.map (fun c => c.1) = al) (hw : rf_rep ws is wo = ws') (hst : st = As.reverse ++ rest) (hlen : As.length = n) (hroom : (rest.map fun v => v.category).sum ≤ 8) (hfr : (rm2.frames + 1 ≤ rm.frames ∧ 8 + (maxL + 11) + rm2.locals ≤ rm.locals)) (hcs : nc + rm2.cells ≤ rm.cells ∧ ns + rm2.slots ≤ rm.slots)
    (k : G V K nL (nc + rm2.cells) (ns + rm2.slots) ws' (pc + 3) lv rest) : G V K nL nc ns ws pc lv st := g_callsv cx hM hl hd is hn hC (ha1.trans ha2.symm) hw hst hlen hroom hfr hcs k
end RFK2
