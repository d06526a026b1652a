/-! Worlds as lists of blocks -/
theorem vD_nd {A : Nat → Prop} {ws : va_W} (h : va_D A ws) : (ws.map (fun c => c.1)).Nodup := by
  unfold List.Nodup
  rw [List.pairwise_map, List.pairwise_iff_getElem]
  intro i j hi hj hij e
  have := h.1 i j ws[i] ws[j] (List.getElem?_eq_getElem hi) (List.getElem?_eq_getElem hj) e
  omega
theorem vD_of {A : Nat → Prop} {ws : va_W} (h : (ws.map (fun c => c.1)).Nodup) (hA : ∀ q ∈ ws, A q.1) : va_D A ws := by
  refine ⟨fun i j p q hp hq e => ?_, fun k q hq => hA q (List.mem_of_getElem? hq)⟩
  unfold List.Nodup at h
  rw [List.pairwise_map, List.pairwise_iff_getElem] at h
  obtain ⟨hi, hie⟩ := List.getElem?_eq_some_iff.mp hp
  obtain ⟨hj, hje⟩ := List.getElem?_eq_some_iff.mp hq
  rcases Nat.lt_trichotomy i j with c | c | c
  · exact absurd (by rw [hie, hje]; exact e) (h i j hi hj c)
  · exact c
  · exact absurd (by rw [hie, hje]; exact e.symm) (h j i hj hi c)
theorem vP_mem {D : va_G} {cl : List vw_C} {ws : va_W} {H : Heap} (h : va_P D cl ws H) {q : Nat × va_E} (hq : q ∈ ws) : va_at D cl q H := by
  obtain ⟨i, hi⟩ := List.getElem?_of_mem hq
  exact h i q hi
theorem vP_of {D : va_G} {cl : List vw_C} {ws : va_W} {H : Heap} (h : ∀ q ∈ ws, va_at D cl q H) : va_P D cl ws H := fun k q hk => h q (List.mem_of_getElem? hk)
theorem bk_get : ∀ {Ws : List va_W} {bi j : Nat} {blk : va_W} {c : Nat × va_E}, Ws[bi]? = some blk → blk[j]? = some c → ∃ q : Nat, Ws.flatten[q]? = some c ∧ ∀ c', Ws.flatten.set q c' = (Ws.set bi (blk.set j c')).flatten
  | [], bi, j, blk, c, hb, hc => by simp at hb
  | w :: Ws, 0, j, blk, c, hb, hc => by
    have e : w = blk := by simpa using hb
    subst e
    have hj : j < w.length := (List.getElem?_eq_some_iff.mp hc).1
    refine ⟨j, ?_, fun c' => ?_⟩
    · rw [List.flatten_cons, List.getElem?_append_left hj]; exact hc
    · rw [List.flatten_cons, List.set_append, if_pos hj]; rfl
  | w :: Ws, bi + 1, j, blk, c, hb, hc => by
    have hb' : Ws[bi]? = some blk := by simpa using hb
    obtain ⟨q, h1, h2⟩ := bk_get hb' hc
    refine ⟨w.length + q, ?_, fun c' => ?_⟩
    · rw [List.flatten_cons, List.getElem?_append_right (by omega), Nat.add_sub_cancel_left]; exact h1
    · rw [List.flatten_cons, List.set_append, if_neg (by omega), Nat.add_sub_cancel_left, h2 c']; rfl
def bk_rep (Ws : List va_W) : List Nat → List va_W → List va_W
  | i :: is, c :: w => (bk_rep Ws is w).set i c
  | _, _ => Ws
theorem bk_rep_get (Ws : List va_W) : ∀ (is : List Nat) (w : List va_W) (k : Nat) (b : va_W), is.length = w.length → (bk_rep Ws is w)[k]? = some b → (∃ j : Nat, w[j]? = some b) ∨ (Ws[k]? = some b ∧ k ∉ is)
  | [], [], k, b, _, h => Or.inr ⟨h, List.not_mem_nil⟩
  | [], c :: w, k, b, hl, h => by simp at hl
  | i :: is, [], k, b, hl, h => by simp at hl
  | i :: is, c :: w, k, b, hl, h => by
    simp only [bk_rep] at h
    by_cases hk : k = i
    · subst hk
      have hlt : k < (bk_rep Ws is w).length := by
        have := (List.getElem?_eq_some_iff.mp h).1
        simpa using this
      rw [List.getElem?_set_self hlt] at h
      exact Or.inl ⟨0, h⟩
    · rw [List.getElem?_set_ne (Ne.symm hk)] at h
      rcases bk_rep_get Ws is w k b (by simpa using hl) h with ⟨j, hj⟩ | ⟨h1, h2⟩
      · exact Or.inl ⟨j + 1, hj⟩
      · exact Or.inr ⟨h1, fun hm => (List.mem_cons.mp hm).elim hk h2⟩
theorem bk_rep_ad (Ws : List va_W) : ∀ (is : List Nat) (w : List va_W), is.map (fun i => (Ws[i]?).map (fun b => b.map (fun c => c.1))) = w.map (fun b => some (b.map (fun c => c.1))) → (bk_rep Ws is w).map (fun b => b.map (fun c => c.1)) = Ws.map (fun b => b.map (fun c => c.1))
  | [], [], _ => rfl
  | [], c :: w, hl => by simp at hl
  | i :: is, [], hl => by simp at hl
  | i :: is, c :: w, hl => by
    simp only [List.map_cons, List.cons.injEq] at hl
    have ih := bk_rep_ad Ws is w hl.2
    simp only [bk_rep]
    rw [List.map_set, ih]
    cases hw : Ws[i]? with
    | none => rw [hw] at hl; simp at hl
    | some b =>
      rw [hw] at hl
      have e : b.map (fun c => c.1) = c.map (fun c => c.1) := by simpa using hl.1
      rw [← e]
      apply List.ext_getElem?
      intro k
      by_cases hk : k = i
      · subst hk
        have hlt : k < Ws.length := (List.getElem?_eq_some_iff.mp hw).1
        rw [List.getElem?_set_self (by simpa using hlt), List.getElem?_map, hw]
        rfl
      · rw [List.getElem?_set_ne (Ne.symm hk)]
theorem bk_disj {Ws : List va_W} (h : (Ws.flatten.map (fun c => c.1)).Nodup) {i k : Nat} {a b : va_W} (hi : Ws[i]? = some a) (hk : Ws[k]? = some b) (hne : i ≠ k) {p q : Nat × va_E} (hp : p ∈ a) (hq : q ∈ b) : p.1 ≠ q.1 := by
  unfold List.Nodup at h
  rw [List.pairwise_map, List.pairwise_flatten] at h
  have hpw := h.2
  rw [List.pairwise_iff_getElem] at hpw
  obtain ⟨hil, hie⟩ := List.getElem?_eq_some_iff.mp hi
  obtain ⟨hkl, hke⟩ := List.getElem?_eq_some_iff.mp hk
  rcases Nat.lt_or_gt_of_ne hne with hlt | hlt
  · exact hpw i k hil hkl hlt p (by rw [hie]; exact hp) q (by rw [hke]; exact hq)
  · exact (hpw k i hkl hil hlt q (by rw [hke]; exact hq) p (by rw [hie]; exact hp)).symm
theorem bk_sel {Ws wcs : List va_W} {is : List Nat} (hC : is.map (fun i => Ws[i]?) = wcs.map some) {b : va_W} (hb : b ∈ wcs) : ∃ i, i ∈ is ∧ Ws[i]? = some b := by
  have : some b ∈ wcs.map some := List.mem_map_of_mem hb
  rw [← hC] at this
  obtain ⟨i, h1, h2⟩ := List.mem_map.mp this
  exact ⟨i, h1, h2⟩
theorem bk_nd {Ws wcs : List va_W} {is : List Nat} (h : (Ws.flatten.map (fun c => c.1)).Nodup) (hn : va_nd is = true) (hC : is.map (fun i => Ws[i]?) = wcs.map some) : (wcs.flatten.map (fun c => c.1)).Nodup := by
  have h0 := h
  unfold List.Nodup at h ⊢
  rw [List.pairwise_map, List.pairwise_flatten] at h ⊢
  refine ⟨fun l hl => ?_, ?_⟩
  · obtain ⟨i, -, hi⟩ := bk_sel hC hl
    exact h.1 _ (List.mem_of_getElem? hi)
  · rw [List.pairwise_iff_getElem]
    intro a b ha hb hab p hp q hq
    have ga : (is.map (fun i => Ws[i]?))[a]? = some (some wcs[a]) := by rw [hC, List.getElem?_map, List.getElem?_eq_getElem ha]; rfl
    have gb : (is.map (fun i => Ws[i]?))[b]? = some (some wcs[b]) := by rw [hC, List.getElem?_map, List.getElem?_eq_getElem hb]; rfl
    rw [List.getElem?_map] at ga gb
    cases hia : is[a]? with
    | none => rw [hia] at ga; cases ga
    | some i =>
      cases hib : is[b]? with
      | none => rw [hib] at gb; cases gb
      | some k =>
        rw [hia] at ga
        rw [hib] at gb
        have hik : i ≠ k := fun e => by
          subst e
          have := va_nd_inj is hn a b i hia hib
          omega
        exact bk_disj h0 (Option.some.inj ga) (Option.some.inj gb) hik hp hq
theorem bk_ok {A0 : Nat → Prop} {D : va_G} {cl : List vw_C} {Ws wcs wos : List va_W} {H H1 : Heap} (hP : va_P D cl Ws.flatten H) (hD : va_D A0 Ws.flatten) (is : List Nat) (hC : is.map (fun i => Ws[i]?) = wcs.map some) (al : List (List Nat)) (ha1 : wos.map (fun b => b.map (fun c => c.1)) = al) (ha2 : wcs.map (fun b => b.map (fun c => c.1)) = al)
    (hk : ∀ q : Nat, q < H.size → ¬ va_A wcs.flatten H.size q → H1[q]? = H[q]?) (hP1 : va_P D cl wos.flatten H1) : va_P D cl (bk_rep Ws is wos).flatten H1 ∧ va_D A0 (bk_rep Ws is wos).flatten := by
  have hnd := vD_nd hD
  have hlen : is.length = wos.length := by
    have h1 := congrArg List.length hC
    have h2 := congrArg List.length (ha1.trans ha2.symm)
    simp at h1 h2
    omega
  have hads : is.map (fun i => (Ws[i]?).map (fun b => b.map (fun c => c.1))) = wos.map (fun b => some (b.map (fun c => c.1))) := by
    have h1 : is.map (fun i => (Ws[i]?).map (fun b => b.map (fun c => c.1))) = (is.map (fun i => Ws[i]?)).map (fun o => o.map (fun b => b.map (fun c => c.1))) := by rw [List.map_map]; rfl
    have h2 : wos.map (fun b => some (b.map (fun c => c.1))) = (wos.map (fun b => b.map (fun c => c.1))).map some := by rw [List.map_map]; rfl
    rw [h1, hC, h2, ha1, ← ha2, List.map_map, List.map_map]
    rfl
  have had := bk_rep_ad Ws is wos hads
  refine ⟨vP_of (fun q hq => ?_), vD_of ?_ (fun q hq => ?_)⟩
  · obtain ⟨b, hb, hqb⟩ := List.mem_flatten.mp hq
    obtain ⟨k, hkb⟩ := List.getElem?_of_mem hb
    rcases bk_rep_get Ws is wos k b hlen hkb with ⟨j, hj⟩ | ⟨h1, h2⟩
    · exact vP_mem hP1 (List.mem_flatten.mpr ⟨b, List.mem_of_getElem? hj, hqb⟩)
    · have hat := vP_mem hP (List.mem_flatten.mpr ⟨b, List.mem_of_getElem? h1, hqb⟩)
      refine hat.kept (hk q.1 hat.lt (fun h => ?_))
      rcases h with ⟨k2, e, h⟩ | h
      · obtain ⟨c, hc, hqc⟩ := List.mem_flatten.mp (List.mem_of_getElem? h)
        obtain ⟨i, hi1, hi2⟩ := bk_sel hC hc
        exact bk_disj hnd h1 hi2 (fun e => h2 (e ▸ hi1)) hqb hqc rfl
      · have := hat.lt; omega
  · rw [List.map_flatten, had, ← List.map_flatten]; exact hnd
  · have : q.1 ∈ (bk_rep Ws is wos).flatten.map (fun c => c.1) := List.mem_map_of_mem hq
    rw [List.map_flatten, had, ← List.map_flatten] at this
    obtain ⟨p, hp, e⟩ := List.mem_map.mp this
    obtain ⟨i, hi⟩ := List.getElem?_of_mem hp
    rw [← e]
    exact hD.2 i p hi
section RBK
variable {V : VT} {K : KT} {nL nc ns : Nat} {Ws Ws' : List va_W} {pc : Nat} {lv lv' : List (Nat × Value)} {st rest : List Value} {cc : ByteArray} {own : String} {rm : Room} {blk : va_W}
theorem b_get {idx ci k a : Nat} {fin : Bool} {ty : FieldType} {fs : List Value} {v : Value} (cx : Cx V K nL cc own rm) (hf : FLk own idx ci k fin ty) (hd : decode cc pc = .ok (.getfield idx, 3)) (bi j : Nat) (hb : Ws[bi]? = some blk) (hq : blk[j]? = some (a, .inr (ci, fs))) (hv : fs[k]? = some v) (kk : G V K nL nc ns Ws.flatten (pc + 3) lv (v :: st)) : G V K nL nc ns Ws.flatten pc lv (.ref a :: st) := by
  obtain ⟨q, h1, -⟩ := bk_get hb hq
  exact g_get cx hf hd q h1 hv kk
theorem b_put {idx ci k a : Nat} {ty : FieldType} {fs : List Value} {v : Value} (cx : Cx V K nL cc own rm) (hf : FLk own idx ci k false ty) (hd : decode cc pc = .ok (.putfield idx, 3)) (bi j : Nat) (hb : Ws[bi]? = some blk) (hq : blk[j]? = some (a, .inr (ci, fs))) (hn : narrow ty v = v) (hfit : fits ty v = true) (hlen : k < fs.length) {blk' : va_W} (hw1 : blk.set j (a, .inr (ci, fs.set k v)) = blk') (hw : Ws.set bi blk' = Ws') (kk : G V K nL nc ns Ws'.flatten (pc + 3) lv st) : G V K nL nc ns Ws.flatten pc lv (v :: .ref a :: st) := by
  obtain ⟨q, h1, h2⟩ := bk_get hb hq
  exact g_put cx hf hd q h1 hn hfit hlen (h2 _) (by rw [hw1, hw]; exact kk)
theorem b_iald {a n : Nat} {f : Nat → Int32} {i : Int32} (cx : Cx V K nL cc own rm) (hd : decode cc pc = .ok (.iaload, 1)) (bi j2 j : Nat) (hb : Ws[bi]? = some blk) (hq : blk[j2]? = some (a, .inl (V.2.2 0, n, .inl f))) (hi : i = nI j) (hj : j < n) (hn : n < 2 ^ 31) (kk : G V K nL nc ns Ws.flatten (pc + 1) lv (.int (f j) :: st)) : G V K nL nc ns Ws.flatten pc lv (.int i :: .ref a :: st) := by
  obtain ⟨q, h1, -⟩ := bk_get hb hq
  exact g_iald cx hd q j h1 hi hj hn kk
theorem b_zald {a n : Nat} {f : Nat → Int32} {i : Int32} (cx : Cx V K nL cc own rm) (hd : decode cc pc = .ok (.baload, 1)) (bi j2 j : Nat) (hb : Ws[bi]? = some blk) (hq : blk[j2]? = some (a, .inl (V.2.2 1, n, .inl f))) (hi : i = nI j) (hj : j < n) (hn : n < 2 ^ 31) (kk : G V K nL nc ns Ws.flatten (pc + 1) lv (.int (f j) :: st)) : G V K nL nc ns Ws.flatten pc lv (.int i :: .ref a :: st) := by
  obtain ⟨q, h1, -⟩ := bk_get hb hq
  exact g_zald cx hd q j h1 hi hj hn kk
theorem b_iast {a n : Nat} {f : Nat → Int32} {i x : Int32} (cx : Cx V K nL cc own rm) (hd : decode cc pc = .ok (.iastore, 1)) (bi j2 j : Nat) (hb : Ws[bi]? = some blk) (hq : blk[j2]? = some (a, .inl (V.2.2 0, n, .inl f))) (hi : i = nI j) (hj : j < n) (hn : n < 2 ^ 31) {blk' : va_W} (hw1 : blk.set j2 (a, .inl (V.2.2 0, n, .inl (upd f j x))) = blk') (hw : Ws.set bi blk' = Ws') (kk : G V K nL nc ns Ws'.flatten (pc + 1) lv st) : G V K nL nc ns Ws.flatten pc lv (.int x :: .int i :: .ref a :: st) := by
  obtain ⟨q, h1, h2⟩ := bk_get hb hq
  exact g_iast cx hd q j h1 hi hj hn (h2 _) (by rw [hw1, hw]; exact kk)
theorem b_zast {a n : Nat} {f : Nat → Int32} {i x : Int32} (cx : Cx V K nL cc own rm) (hd : decode cc pc = .ok (.bastore, 1)) (bi j2 j : Nat) (hb : Ws[bi]? = some blk) (hq : blk[j2]? = some (a, .inl (V.2.2 1, n, .inl f))) (hi : i = nI j) (hj : j < n) (hn : n < 2 ^ 31) (hx1 : vp_nar .boolean x = x) {blk' : va_W} (hw1 : blk.set j2 (a, .inl (V.2.2 1, n, .inl (upd f j x))) = blk') (hw : Ws.set bi blk' = Ws') (kk : G V K nL nc ns Ws'.flatten (pc + 1) lv st) : G V K nL nc ns Ws.flatten pc lv (.int x :: .int i :: .ref a :: st) := by
  obtain ⟨q, h1, h2⟩ := bk_get hb hq
  exact g_zast cx hd q j h1 hi hj hn hx1 (h2 _) (by rw [hw1, hw]; exact kk)
theorem b_aald {a n : Nat} {f : Nat → Option Nat} {i : Int32} {b : Nat} (cx : Cx V K nL cc own rm) (hd : decode cc pc = .ok (.aaload, 1)) (bi j2 j : Nat) (hb : Ws[bi]? = some blk) (hq : blk[j2]? = some (a, .inl (V.2.2 2, n, .inr (.inr (.inr (.inr f)))))) (hi : i = nI j) (hj : j < n) (hn : n < 2 ^ 31) (hv : f j = some b) (kk : G V K nL nc ns Ws.flatten (pc + 1) lv (.ref b :: st)) : G V K nL nc ns Ws.flatten pc lv (.int i :: .ref a :: st) := by
  obtain ⟨q, h1, -⟩ := bk_get hb hq
  exact g_aald cx hd q j h1 hi hj hn hv kk
end RBK
section RBC
variable {V : VT} {K : KT} {nL nc ns : Nat} {Ws Ws' wcs wos : List va_W} {wc wo : va_W} {pc : Nat} {lv lv' : List (Nat × Value)} {st rest : List Value} {cc : ByteArray} {own : String} {rm : Room}
variable {y : MethodName} {c2 : ByteArray} {maxL : Nat} {ty : FieldType} {rm2 : Room} {b : Nat} {As : List Value} {idx n : Nat}
theorem b_calli {r0 : Int32} (cx : Cx V K nL cc own rm) (hM : CI V y c2 maxL ty rm2 (.ref b :: As) wc (fun r w => r = r0 ∧ w = wo)) (hl : MLk own idx y c2 maxL (some ty) n) (hd : decode cc pc = .ok (.invokevirtual idx, 3)) (is : List Nat) (hn : va_nd is = true) (hC : is.map (fun i => Ws[i]?) = wcs.map some) (hwc : wcs.flatten = wc) (hwo : wos.flatten = wo) (al : List (List Nat)) (ha1 : wos.map (fun b => b.map (fun c => c.1)) = al) (ha2 : wcs.map (fun b => b.map (fun c => c.1)) = al) (hw : bk_rep Ws is wos = Ws') (bq jq ci : Nat) {fs : List Value} {q : vw_C} {rb : va_W} (hq0 : wcs[bq]? = some rb) (hq1 : rb[jq]? = some (b, .inr (ci, fs))) (hci : vwCl[ci]? = some q) (hqc : q.1 = y.cls) (hst : st = As.reverse ++ .ref b :: rest) (hlen : As.length = n) (hroom : (rest.map fun v => v.category).sum ≤ 8) (hfr : (rm2.frames + 1 ≤ rm.frames ∧ 8 + (maxL + 11) + rm2.locals ≤ rm.locals)) (hcs : nc + rm2.cells ≤ rm.cells ∧ ns + rm2.slots ≤ rm.slots)
    (k : G V K nL (nc + rm2.cells) (ns + rm2.slots) Ws'.flatten (pc + 3) lv (.int r0 :: rest)) : G V K nL nc ns Ws.flatten pc lv st := by
  subst hw; subst hst; subst hwc; subst hwo
  obtain ⟨l, D, cy⟩ := V; obtain ⟨p, e, R, s, m, args, below, meth, c, A, H0, Q⟩ := K
  obtain ⟨hx, hb, hml, hown, ht, hK, hN, hlk, hR, hA⟩ := cx
  subst hR
  obtain ⟨m1, m2, m3, m4, m5, m6, m7, m8⟩ := hl
  intro H locs ls hP hD hS hl
  have hnd := vD_nd hD
  have hsub : ∀ q ∈ wcs.flatten, q ∈ Ws.flatten := fun q hq => by
    obtain ⟨b, hb, hqb⟩ := List.mem_flatten.mp hq
    obtain ⟨i, -, hi⟩ := bk_sel hC hb
    exact List.mem_flatten.mpr ⟨b, List.mem_of_getElem? hi, hqb⟩
  have hPc : va_P D vwCl wcs.flatten H := vP_of (fun q hq => vP_mem hP (hsub q hq))
  have hDc : va_D A wcs.flatten := vD_of (bk_nd hnd hn hC) (fun q hq => by
    obtain ⟨i, hi⟩ := List.getElem?_of_mem (hsub q hq)
    exact hD.2 i q hi)
  have hFc : ∀ q, va_A wcs.flatten H.size q → A q := fun q h => by
    rcases h with ⟨k, e, h⟩ | h
    · exact hDc.2 k (q, e) h
    · exact hA q (Nat.le_trans hS.1 h)
  obtain ⟨qr, hqr, -⟩ := bk_get hq0 hq1
  have hrecv := va_recv hK hPc hci hqr
  have hgi : GoodIn lw_good (wsV own idx y.cls y (.code y c2 maxL (some ty) :: lw_good)) := rf_good_in (fun w hw => by
    simp only [wsV, List.cons_append, List.nil_append, List.mem_cons] at hw
    rcases hw with rfl | rfl | rfl | rfl | rfl | hw
    · exact m1
    · exact m2
    · exact m3
    · exact m4
    · exact m5
    · exact hw)
  refine va_calli (va_runV (As := As) (rest := rest) ⟨hx, hb, hml, hown, ht⟩ (hM H.size) (cwV n ht hgi rfl rfl rfl ⟨rfl, m6, m7, m8⟩ hfr) ⟨rf_P.blind, by rw [← hqc]; exact hrecv, fun U hU hW => ⟨rfl, by rw [hU], by rw [hU]; exact hPc, va_K.moved hW.alike hK, hN.warm hW, hDc.weaken (fun _ _ _ _ => trivial)⟩⟩ rfl hlen hl.1 rfl (lv_room hroom) hd hcs) hS (fun q _ h => hFc q h) hFc (fun r w t H1 locs1 e1 hvm hpost hB hz hk hS1 => ?_)
  obtain ⟨rfl, rfl⟩ := hpost
  obtain ⟨hP1, hD1⟩ := hB
  rw [e1] at hP1
  obtain ⟨hP2, hD2⟩ := bk_ok hP hD is hC al ha1 ha2 hk hP1
  exact k H1 locs1 ls hP2 hD2 hS1 hl
theorem b_callv (cx : Cx V K nL cc own rm) (hM : CV V y c2 maxL rm2 (.ref b :: As) wc (fun w => w = wo)) (hl : MLk own idx y c2 maxL none n) (hd : decode cc pc = .ok (.invokevirtual idx, 3)) (is : List Nat) (hn : va_nd is = true) (hC : is.map (fun i => Ws[i]?) = wcs.map some) (hwc : wcs.flatten = wc) (hwo : wos.flatten = wo) (al : List (List Nat)) (ha1 : wos.map (fun b => b.map (fun c => c.1)) = al) (ha2 : wcs.map (fun b => b.map (fun c => c.1)) = al) (hw : bk_rep Ws is wos = Ws') (bq jq ci : Nat) {fs : List Value} {q : vw_C} {rb : va_W} (hq0 : wcs[bq]? = some rb) (hq1 : rb[jq]? = some (b, .inr (ci, fs))) (hci : vwCl[ci]? = some q) (hqc : q.1 = y.cls) (hst : st = As.reverse ++ .ref b :: rest) (hlen : As.length = n) (hroom : (rest.map fun v => v.category).sum ≤ 8) (hfr : (rm2.frames + 1 ≤ rm.frames ∧ 8 + (maxL + 11) + rm2.locals ≤ rm.locals)) (hcs : nc + rm2.cells ≤ rm.cells ∧ ns + rm2.slots ≤ rm.slots)
    (k : G V K nL (nc + rm2.cells) (ns + rm2.slots) Ws'.flatten (pc + 3) lv rest) : G V K nL nc ns Ws.flatten pc lv st := by
  subst hw; subst hst; subst hwc; subst hwo
  obtain ⟨l, D, cy⟩ := V; obtain ⟨p, e, R, s, m, args, below, meth, c, A, H0, Q⟩ := K
  obtain ⟨hx, hb, hml, hown, ht, hK, hN, hlk, hR, hA⟩ := cx
  subst hR
  obtain ⟨m1, m2, m3, m4, m5, m6, m7, m8⟩ := hl
  intro H locs ls hP hD hS hl
  have hnd := vD_nd hD
  have hsub : ∀ q ∈ wcs.flatten, q ∈ Ws.flatten := fun q hq => by
    obtain ⟨b, hb, hqb⟩ := List.mem_flatten.mp hq
    obtain ⟨i, -, hi⟩ := bk_sel hC hb
    exact List.mem_flatten.mpr ⟨b, List.mem_of_getElem? hi, hqb⟩
  have hPc : va_P D vwCl wcs.flatten H := vP_of (fun q hq => vP_mem hP (hsub q hq))
  have hDc : va_D A wcs.flatten := vD_of (bk_nd hnd hn hC) (fun q hq => by
    obtain ⟨i, hi⟩ := List.getElem?_of_mem (hsub q hq)
    exact hD.2 i q hi)
  have hFc : ∀ q, va_A wcs.flatten H.size q → A q := fun q h => by
    rcases h with ⟨k, e, h⟩ | h
    · exact hDc.2 k (q, e) h
    · exact hA q (Nat.le_trans hS.1 h)
  obtain ⟨qr, hqr, -⟩ := bk_get hq0 hq1
  have hrecv := va_recv hK hPc hci hqr
  have hgi : GoodIn lw_good (wsV own idx y.cls y (.code y c2 maxL none :: lw_good)) := rf_good_in (fun w hw => by
    simp only [wsV, List.cons_append, List.nil_append, List.mem_cons] at hw
    rcases hw with rfl | rfl | rfl | rfl | rfl | hw
    · exact m1
    · exact m2
    · exact m3
    · exact m4
    · exact m5
    · exact hw)
  refine va_callv (va_runV (As := As) (rest := rest) ⟨hx, hb, hml, hown, ht⟩ (hM H.size) (cwV n ht hgi rfl rfl rfl ⟨rfl, m6, m7, m8⟩ hfr) ⟨rf_P.blind, by rw [← hqc]; exact hrecv, fun U hU hW => ⟨rfl, by rw [hU], by rw [hU]; exact hPc, va_K.moved hW.alike hK, hN.warm hW, hDc.weaken (fun _ _ _ _ => trivial)⟩⟩ rfl hlen hl.1 rfl (lv_room hroom) hd hcs) hS (fun q _ h => hFc q h) hFc (fun w t H1 locs1 e1 hvm hpost hB hz hk hS1 => ?_)
  subst hpost
  obtain ⟨hP1, hD1⟩ := hB
  rw [e1] at hP1
  obtain ⟨hP2, hD2⟩ := bk_ok hP hD is hC al ha1 ha2 hk hP1
  exact k H1 locs1 ls hP2 hD2 hS1 hl
theorem b_callsi {r0 : Int32} (cx : Cx V K nL cc own rm) (hM : CI V y c2 maxL ty rm2 As wc (fun r w => r = r0 ∧ w = wo)) (hl : MLs own idx y c2 maxL (some ty) n) (hd : decode cc pc = .ok (.invokestatic idx, 3)) (is : List Nat) (hn : va_nd is = true) (hC : is.map (fun i => Ws[i]?) = wcs.map some) (hwc : wcs.flatten = wc) (hwo : wos.flatten = wo) (al : List (List Nat)) (ha1 : wos.map (fun b => b.map (fun c => c.1)) = al) (ha2 : wcs.map (fun b => b.map (fun c => c.1)) = al) (hw : bk_rep Ws is wos = Ws') (hst : st = As.reverse ++ rest) (hlen : As.length = n) (hroom : (rest.map fun v => v.category).sum ≤ 8) (hfr : (rm2.frames + 1 ≤ rm.frames ∧ 8 + (maxL + 11) + rm2.locals ≤ rm.locals)) (hcs : nc + rm2.cells ≤ rm.cells ∧ ns + rm2.slots ≤ rm.slots)
    (k : G V K nL (nc + rm2.cells) (ns + rm2.slots) Ws'.flatten (pc + 3) lv (.int r0 :: rest)) : G V K nL nc ns Ws.flatten pc lv st := by
  subst hw; subst hst; subst hwc; subst hwo
  obtain ⟨l, D, cy⟩ := V; obtain ⟨p, e, R, s, m, args, below, meth, c, A, H0, Q⟩ := K
  obtain ⟨hx, hb, hml, hown, ht, hK, hN, hlk, hR, hA⟩ := cx
  subst hR
  obtain ⟨m1, m2, m3, m4, m5, m6, m7⟩ := hl
  intro H locs ls hP hD hS hl
  have hnd := vD_nd hD
  have hsub : ∀ q ∈ wcs.flatten, q ∈ Ws.flatten := fun q hq => by
    obtain ⟨b, hb, hqb⟩ := List.mem_flatten.mp hq
    obtain ⟨i, -, hi⟩ := bk_sel hC hb
    exact List.mem_flatten.mpr ⟨b, List.mem_of_getElem? hi, hqb⟩
  have hPc : va_P D vwCl wcs.flatten H := vP_of (fun q hq => vP_mem hP (hsub q hq))
  have hDc : va_D A wcs.flatten := vD_of (bk_nd hnd hn hC) (fun q hq => by
    obtain ⟨i, hi⟩ := List.getElem?_of_mem (hsub q hq)
    exact hD.2 i q hi)
  have hFc : ∀ q, va_A wcs.flatten H.size q → A q := fun q h => by
    rcases h with ⟨k, e, h⟩ | h
    · exact hDc.2 k (q, e) h
    · exact hA q (Nat.le_trans hS.1 h)
  have hgi : GoodIn lw_good (va_wsS own idx y (.code y c2 maxL (some ty) :: lw_good)) := rf_good_in (fun w hw => by
    simp only [va_wsS, List.cons_append, List.nil_append, List.mem_cons] at hw
    rcases hw with rfl | rfl | rfl | rfl | hw
    · exact m1
    · exact m2
    · exact m3
    · exact m4
    · exact hw)
  refine va_calli (va_runS (As := As) (rest := rest) ⟨hx, hb, hml, hown, ht⟩ (hM H.size) (va_cwS n ht hgi rfl rfl rfl ⟨m5, m6, m7⟩ hfr) ⟨rf_P.blind, fun U hU hW => ⟨rfl, by rw [hU], by rw [hU]; exact hPc, va_K.moved hW.alike hK, hN.warm hW, hDc.weaken (fun _ _ _ _ => trivial)⟩⟩ rfl hlen hl.1 rfl (lv_room hroom) hd hcs) hS (fun q _ h => hFc q h) hFc (fun r w t H1 locs1 e1 hvm hpost hB hz hk hS1 => ?_)
  obtain ⟨rfl, rfl⟩ := hpost
  obtain ⟨hP1, hD1⟩ := hB
  rw [e1] at hP1
  obtain ⟨hP2, hD2⟩ := bk_ok hP hD is hC al ha1 ha2 hk hP1
  exact k H1 locs1 ls hP2 hD2 hS1 hl
theorem b_callsv (cx : Cx V K nL cc own rm) (hM : CV V y c2 maxL rm2 As wc (fun w => w = wo)) (hl : MLs own idx y c2 maxL none n) (hd : decode cc pc = .ok (.invokestatic idx, 3)) (is : List Nat) (hn : va_nd is = true) (hC : is.map (fun i => Ws[i]?) = wcs.map some) (hwc : wcs.flatten = wc) (hwo : wos.flatten = wo) (al : List (List Nat)) (ha1 : wos.map (fun b => b.map (fun c => c.1)) = al) (ha2 : wcs.map (fun b => b.map (fun c => c.1)) = al) (hw : bk_rep Ws is wos = Ws') (hst : st = As.reverse ++ rest) (hlen : As.length = n) (hroom : (rest.map fun v => v.category).sum ≤ 8) (hfr : (rm2.frames + 1 ≤ rm.frames ∧ 8 + (maxL + 11) + rm2.locals ≤ rm.locals)) (hcs : nc + rm2.cells ≤ rm.cells ∧ ns + rm2.slots ≤ rm.slots)
    (k : G V K nL (nc + rm2.cells) (ns + rm2.slots) Ws'.flatten (pc + 3) lv rest) : G V K nL nc ns Ws.flatten pc lv st := by
  subst hw; subst hst; subst hwc; subst hwo
  obtain ⟨l, D, cy⟩ := V; obtain ⟨p, e, R, s, m, args, below, meth, c, A, H0, Q⟩ := K
  obtain ⟨hx, hb, hml, hown, ht, hK, hN, hlk, hR, hA⟩ := cx
  subst hR
  obtain ⟨m1, m2, m3, m4, m5, m6, m7⟩ := hl
  intro H locs ls hP hD hS hl
  have hnd := vD_nd hD
  have hsub : ∀ q ∈ wcs.flatten, q ∈ Ws.flatten := fun q hq => by
    obtain ⟨b, hb, hqb⟩ := List.mem_flatten.mp hq
    obtain ⟨i, -, hi⟩ := bk_sel hC hb
    exact List.mem_flatten.mpr ⟨b, List.mem_of_getElem? hi, hqb⟩
  have hPc : va_P D vwCl wcs.flatten H := vP_of (fun q hq => vP_mem hP (hsub q hq))
  have hDc : va_D A wcs.flatten := vD_of (bk_nd hnd hn hC) (fun q hq => by
    obtain ⟨i, hi⟩ := List.getElem?_of_mem (hsub q hq)
    exact hD.2 i q hi)
  have hFc : ∀ q, va_A wcs.flatten H.size q → A q := fun q h => by
    rcases h with ⟨k, e, h⟩ | h
    · exact hDc.2 k (q, e) h
    · exact hA q (Nat.le_trans hS.1 h)
  have hgi : GoodIn lw_good (va_wsS own idx y (.code y c2 maxL none :: lw_good)) := rf_good_in (fun w hw => by
    simp only [va_wsS, List.cons_append, List.nil_append, List.mem_cons] at hw
    rcases hw with rfl | rfl | rfl | rfl | hw
    · exact m1
    · exact m2
    · exact m3
    · exact m4
    · exact hw)
  refine va_callv (va_runS (As := As) (rest := rest) ⟨hx, hb, hml, hown, ht⟩ (hM H.size) (va_cwS n ht hgi rfl rfl rfl ⟨m5, m6, m7⟩ hfr) ⟨rf_P.blind, fun U hU hW => ⟨rfl, by rw [hU], by rw [hU]; exact hPc, va_K.moved hW.alike hK, hN.warm hW, hDc.weaken (fun _ _ _ _ => trivial)⟩⟩ rfl hlen hl.1 rfl (lv_room hroom) hd hcs) hS (fun q _ h => hFc q h) hFc (fun w t H1 locs1 e1 hvm hpost hB hz hk hS1 => ?_)
  subst hpost
  obtain ⟨hP1, hD1⟩ := hB
  rw [e1] at hP1
  obtain ⟨hP2, hD2⟩ := bk_ok hP hD is hC al ha1 ha2 hk hP1
  exact k H1 locs1 ls hP2 hD2 hS1 hl
end RBC
