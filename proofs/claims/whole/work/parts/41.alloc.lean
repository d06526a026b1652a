/-! Making objects and arrays; constructors called -/
section RAL
variable {V : VT} {K : KT} {nL nc ns : Nat} {ws ws' : va_W} {pc : Nat} {lv lv' : List (Nat × Value)} {st rest : List Value} {cc : ByteArray} {own : String} {rm : Room}
theorem rf_cy {D : va_G} {cy : Nat → ClassId} {s : State} {cA : ClassId} {tys : List (ClassId × FieldType)} (hK : va_K D vwCl (rf_tys cy) s) (k : Nat) {c0 : ClassId} {ty : FieldType} (hk : (rf_tys cy)[k]? = some (c0, ty)) (hK2 : va_K D vwCl (tys ++ [(cA, ty)]) s) : cA = c0 := by
  have h1 := (hK.2 k (c0, ty) hk).2
  have h2 := (hK2.2 tys.length (cA, ty) (by rw [List.getElem?_append_right (Nat.le_refl _), Nat.sub_self]; rfl)).2
  cases ty with
  | object C =>
    obtain ⟨_, _, _, _, _, a⟩ := h1
    obtain ⟨_, _, _, _, _, b⟩ := h2
    exact Option.some.inj (b.symm.trans a)
  | _ => exact Option.some.inj (h2.symm.trans h1)
theorem g_newi {n : Int32} {N : Nat} (cx : Cx V K nL cc own rm) (hd : decode cc pc = .ok (.newarray .int, 2)) (hn : n = nI N) (hN : N ≤ 1000) (hcs : nc + 1 ≤ rm.cells ∧ ns + N ≤ rm.slots) (k : ∀ q, G V K nL (nc + 1) (ns + N) (ws ++ [(q, .inl (V.2.2 0, N, .inl (fun _ => 0)))]) (pc + 2) lv (.ref q :: st)) : G V K nL nc ns ws pc lv (.int n :: st) := by
  obtain ⟨l, D, cy⟩ := V; obtain ⟨p, e, R, s, m, args, below, meth, c, A, H0, Q⟩ := K
  obtain ⟨hx, hb, hml, hown, ht, hK, hN', hlk, hR, hA⟩ := cx
  subst hR
  subst hn
  intro H locs ls hP hD hS hl
  refine va_newa (atype := .int) (ty := .int) (a0 := (N, .inl (fun _ => 0))) hx hb (ht _ aw_int) rfl hK hP hD hS hA (fun cA => rfl) (nI_pos (by omega)) (nI_clamp (by omega)) (by show N * 4 ≤ _; omega) hcs.1 hcs.2 hd (fun q cA H1 hK2 hP1 hD1 hS1 => ?_)
  have e := rf_cy hK 0 rfl hK2
  subst e
  exact k q H1 locs ls hP1 hD1 hS1 hl
theorem g_newz {n : Int32} {N : Nat} (cx : Cx V K nL cc own rm) (hd : decode cc pc = .ok (.newarray .boolean, 2)) (hn : n = nI N) (hN : N ≤ 1000) (hcs : nc + 1 ≤ rm.cells ∧ ns + N ≤ rm.slots) (k : ∀ q, G V K nL (nc + 1) (ns + N) (ws ++ [(q, .inl (V.2.2 1, N, .inl (fun _ => 0)))]) (pc + 2) lv (.ref q :: st)) : G V K nL nc ns ws pc lv (.int n :: st) := by
  obtain ⟨l, D, cy⟩ := V; obtain ⟨p, e, R, s, m, args, below, meth, c, A, H0, Q⟩ := K
  obtain ⟨hx, hb, hml, hown, ht, hK, hN', hlk, hR, hA⟩ := cx
  subst hR
  subst hn
  intro H locs ls hP hD hS hl
  refine va_newa (atype := .boolean) (ty := .boolean) (a0 := (N, .inl (fun _ => 0))) hx hb (ht _ aw_boolean) rfl hK hP hD hS hA (fun cA => rfl) (nI_pos (by omega)) (nI_clamp (by omega)) (by show N * 1 ≤ _; omega) hcs.1 hcs.2 hd (fun q cA H1 hK2 hP1 hD1 hS1 => ?_)
  have e := rf_cy hK 1 rfl hK2
  subst e
  exact k q H1 locs ls hP1 hD1 hS1 hl
theorem g_newq {n : Int32} {N idx : Nat} (cx : Cx V K nL cc own rm) (hk : Cond.classLink own idx RX3 ∈ lw_good) (hd : decode cc pc = .ok (.anewarray idx, 3)) (hn : n = nI N) (hN : N ≤ 1000) (hcs : nc + 1 ≤ rm.cells ∧ ns + N ≤ rm.slots) (k : ∀ q, G V K nL (nc + 1) (ns + N) (ws ++ [(q, .inl (V.2.2 2, N, .inr (.inr (.inr (.inr (fun _ => none))))))]) (pc + 3) lv (.ref q :: st)) : G V K nL nc ns ws pc lv (.int n :: st) := by
  obtain ⟨l, D, cy⟩ := V; obtain ⟨p, e, R, s, m, args, below, meth, c, A, H0, Q⟩ := K
  obtain ⟨hx, hb, hml, hown, ht, hK, hN', hlk, hR, hA⟩ := cx
  subst hR
  subst hn
  intro H locs ls hP hD hS hl
  refine va_newq (C := RX3) (N' := N) hx hb hown (ht _ hk) hN'.2 hK hP hD hS hA (nI_pos (by omega)) (nI_clamp (by omega)) (by omega) hcs.1 hcs.2 hd (fun q cA H1 hK2 hP1 hD1 hS1 => ?_)
  have e := rf_cy hK 2 rfl hK2
  subst e
  exact k q H1 locs ls hP1 hD1 hS1 hl
theorem g_new {idx ci N : Nat} {C : String} {T : u_T} {fs : List Value} (cx : Cx V K nL cc own rm) (ty : Nat → FieldType) (hty : ∀ k, k < N → parseFieldDescriptor (T k).2.2.1 = some (ty k)) (hin : ∀ w ∈ u_ws C T N, w ∈ lw_good) (hk : Cond.classLink own idx C ∈ lw_good) (hi : Cond.instantiable C N ∈ lw_good) (hz : Cond.initialized C ∈ lw_good) (hci : vwCl[ci]? = some (C, T, N)) (hfs : ∀ j, j < N → defaultValue (ty j) = vp_V fs j) (hd : decode cc pc = .ok (.new idx, 3)) (hcs : nc + 1 ≤ rm.cells ∧ ns + N ≤ rm.slots) (k : ∀ q, G V K nL (nc + 1) (ns + N) (ws ++ [(q, .inr (ci, fs))]) (pc + 3) lv (.ref q :: st)) : G V K nL nc ns ws pc lv st := by
  obtain ⟨l, D, cy⟩ := V; obtain ⟨p, e, R, s, m, args, below, meth, c, A, H0, Q⟩ := K
  obtain ⟨hx, hb, hml, hown, ht, hK, hN', hlk, hR, hA⟩ := cx
  subst hR
  intro H locs ls hP hD hS hl
  exact va_new (ci := ci) (fs := fs) hx hb ht hin ty hty hown (ht _ hk) (ht _ hi) (ht _ hz) hK hP hD hS hA hci hfs hcs.1 hcs.2 hd (fun q H1 hP1 hD1 hS1 => k q H1 locs ls hP1 hD1 hS1 hl)
theorem g_objInit {a idx : Nat} (cx : Cx V K nL cc own rm) (hl : Cond.methodLink own idx objectInit ∈ lw_good) (hd : decode cc pc = .ok (.invokespecial idx, 3)) (hf : 1 ≤ rm.frames) (hlo : (st.map fun v => v.category).sum + 12 ≤ rm.locals) (k : G V K nL nc ns ws (pc + 3) lv st) : G V K nL nc ns ws pc lv (.ref a :: st) := by
  obtain ⟨l, D, cy⟩ := V; obtain ⟨p, e, R, s, m, args, below, meth, c, A, H0, Q⟩ := K
  obtain ⟨hx, hb, hml, hown, ht, hK, hN', hlk, hR, hA⟩ := cx
  subst hR
  intro H locs ls hP hD hS hls
  refine W.objInit hx hb hown (ht _ hl) (ht _ ow_inst) (ht _ ow_code) rfl (by rw [hml]; exact hls.1) rfl hd hf (by show 2 * 0 + _ + 12 ≤ _; omega) ?_
  exact W.eq (g2 := F0 m (pc + 3) ls st) rfl (k H locs ls hP hD hS hls)
theorem rf_app {A0 : Nat → Prop} {D : va_G} {cl : List vw_C} {w : va_W} {q : Nat} {e : va_E} {H H1 : Heap} (hP : va_P D cl (ws ++ [(q, e)]) H) (hD : va_D A0 (ws ++ [(q, e)])) (hk : ∀ x : Nat, x < H.size → ¬ va_A [(q, e)] H.size x → H1[x]? = H[x]?) (hF : ∀ x, va_A [(q, e)] H.size x → A0 x) (hP1 : va_P D cl w H1) (hD1 : va_D (va_A [(q, e)] H.size) w) : va_P D cl (ws ++ w) H1 ∧ va_D A0 (ws ++ w) := by
  have hPw : va_P D cl ws H := fun k x hx => hP k x (by rw [List.getElem?_append_left ((List.getElem?_eq_some_iff.mp hx).1)]; exact hx)
  have hlast : (ws ++ [(q, e)])[ws.length]? = some (q, e) := by rw [List.getElem?_append_right (Nat.le_refl _), Nat.sub_self]; rfl
  have hne : ∀ (k : Nat) (x : Nat × va_E), ws[k]? = some x → x.1 ≠ q := fun k x hx h => by
    have hlt := (List.getElem?_eq_some_iff.mp hx).1
    have := hD.1 k ws.length x (q, e) (by rw [List.getElem?_append_left hlt]; exact hx) hlast h
    omega
  have hq0 : ∀ x, va_A [(q, e)] H.size x → x = q ∨ H.size ≤ x := fun x hx => by
    rcases hx with ⟨k, e', h⟩ | h
    · refine Or.inl ?_
      have hz : k < 1 := (List.getElem?_eq_some_iff.mp h).1
      rw [show k = 0 by omega] at h
      exact (congrArg Prod.fst (Option.some.inj h)).symm
    · exact Or.inr h
  have hDw : va_D A0 ws := ⟨fun i j a b ha hb' h => hD.1 i j a b (by rw [List.getElem?_append_left ((List.getElem?_eq_some_iff.mp ha).1)]; exact ha) (by rw [List.getElem?_append_left ((List.getElem?_eq_some_iff.mp hb').1)]; exact hb') h, fun k x hx => hD.2 k x (by rw [List.getElem?_append_left ((List.getElem?_eq_some_iff.mp hx).1)]; exact hx)⟩
  refine ⟨(hPw.kept (fun k x hx => hk x.1 ((hPw k x hx).lt) (fun h => ?_))).app hP1, hDw.app (hD1.weaken (fun _ x _ h => hF x.1 h)) (fun i j a b ha hb' h => ?_)⟩
  · rcases hq0 _ h with h | h
    · exact hne k x hx h
    · exact absurd ((hPw k x hx).lt) (by omega)
  · have hb2 := hD1.2 j b hb'
    rcases hq0 _ hb2 with h2 | h2
    · exact hne i a ha (h.trans h2)
    · have := (hPw i a ha).lt
      omega
theorem g_initv {y : MethodName} {c2 : ByteArray} {maxL idx n q : Nat} {rm2 : Room} {e : va_E} {As : List Value} {Post : va_W → Prop} (cx : Cx V K nL cc own rm) (hM : CV V y c2 maxL rm2 (.ref q :: As) [(q, e)] Post) (hl : Cond.methodLink own idx y ∈ lw_good ∨ Cond.methodLinkNest own idx y "RingFrames" ∈ lw_nst)
    (hmw : Cond.instanceMethod y ∈ lw_good ∧ Cond.initialized y.cls ∈ lw_good ∧ Cond.code y c2 maxL none ∈ lw_good ∧ y.cls ≠ "java/lang/invoke/MethodHandle" ∧ y.cls ≠ "java/lang/invoke/VarHandle" ∧ (parseMethodDescriptor y.desc).map (fun d => d.parameters.length) = some n) (hyn : y.name = "<init>") (hd : decode cc pc = .ok (.invokespecial idx, 3)) (hst : st = As.reverse ++ .ref q :: rest) (hlen : As.length = n) (hroom : (rest.map fun v => v.category).sum ≤ 8) (hfr : (rm2.frames + 1 ≤ rm.frames ∧ 8 + (maxL + 11) + rm2.locals ≤ rm.locals)) (hcs : nc + rm2.cells ≤ rm.cells ∧ ns + rm2.slots ≤ rm.slots)
    (k : ∀ w, Post w → G V K nL (nc + rm2.cells) (ns + rm2.slots) (ws ++ w) (pc + 3) lv rest) : G V K nL nc ns (ws ++ [(q, e)]) pc lv st := by
  subst hst
  obtain ⟨l, D, cy⟩ := V; obtain ⟨p, e', R, s, m, args, below, meth, c, A, H0, Q⟩ := K
  obtain ⟨hx, hb, hml, hown, ht, hK, hN, hlk, hR, hA⟩ := cx
  subst hR
  obtain ⟨m1, m2, m3, m4, m5, m6⟩ := hmw
  intro H locs ls hP hD hS hls
  have hlast : (ws ++ [(q, e)])[ws.length]? = some (q, e) := by rw [List.getElem?_append_right (Nat.le_refl _), Nat.sub_self]; rfl
  have hPc : va_P D vwCl [(q, e)] H := fun k x hx => by
    have hz : k < 1 := (List.getElem?_eq_some_iff.mp hx).1
    rw [show k = 0 by omega] at hx
    exact hP ws.length x (hlast.trans hx)
  have hDc : va_D (fun _ => True) [(q, e)] := ⟨fun i j a b ha hb' _ => by
    have h1 : i < 1 := (List.getElem?_eq_some_iff.mp ha).1
    have h2 : j < 1 := (List.getElem?_eq_some_iff.mp hb').1
    omega, fun _ _ _ => trivial⟩
  have hFc : ∀ x, va_A [(q, e)] H.size x → A x := fun x h => by
    rcases h with ⟨k, e1, h⟩ | h
    · have hz : k < 1 := (List.getElem?_eq_some_iff.mp h).1
      rw [show k = 0 by omega] at h
      have e2 : q = x := congrArg Prod.fst (Option.some.inj h)
      rw [← e2]
      exact hD.2 ws.length (q, e) hlast
    · exact hA x (Nat.le_trans hS.1 h)
  have hgi : GoodIn lw_good (.code y c2 maxL none :: lw_good) := rf_good_in (fun w hw => by
    rcases List.mem_cons.mp hw with rfl | hw
    · exact m3
    · exact hw)
  have hpre : PreS s H (rf_P (l, D, cy) (.ref q :: As) [(q, e)] H.size) (.ref q :: As) := ⟨rf_P.blind, fun U hU hW => ⟨rfl, by rw [hU], by rw [hU]; exact hPc, va_K.moved hW.alike hK, hN.warm hW, hDc⟩⟩
  have kk : ∀ (u : va_W) (t : State) (H1 : Heap) (locs1 : List Loc), t.heap = H1 → s.vm.Alike t.vm → Post u → rf_B (l, D, cy) [(q, e)] H.size u t → H.size ≤ H1.size → (∀ x : Nat, x < H.size → ¬ va_A [(q, e)] H.size x → H1[x]? = H[x]?) → va_S A H0 H1 locs1 → W p l e' R s m args below meth c H1 locs1 (nc + rm2.cells) (ns + rm2.slots) Q (F0 m (pc + 3) ls rest) := by
    intro u t H1 locs1 e1 hvm hpost hB hz hk hS1
    obtain ⟨hP1, hD1⟩ := hB
    rw [e1] at hP1
    obtain ⟨hP2, hD2⟩ := rf_app hP hD hk hFc hP1 hD1
    exact k u hpost H1 locs1 ls hP2 hD2 hS1 hls
  rcases hl with hl | hl
  · exact va_callv (va_runI (As := As) (rest := rest) ⟨hx, hb, hml, hown, ht⟩ (hM H.size) (cwI n ht hgi rfl rfl rfl (ht _ m2) (ht _ hl) (ht _ m1) hyn ⟨m4, m5, m6⟩ hfr) hpre rfl hlen hls.1 rfl (lv_room hroom) hd hcs) hS (fun x _ h => hFc x h) hFc kk
  · exact va_callv (va_runIN (As := As) (rest := rest) ⟨hx, hb, hml, hown, ht⟩ (hM H.size) ⟨va_cnB n ht hgi rfl rfl rfl (hN.1 _ hl) (ht _ m2) ⟨m4, m5, m6⟩ hfr, hyn, ht _ m1⟩ hpre rfl hlen hls.1 rfl (lv_room hroom) hd hcs) hS (fun x _ h => hFc x h) hFc kk
theorem g_aast {a n v ci : Nat} {vs : List Value} {f : Nat → Option Nat} {i : Int32} (cx : Cx V K nL cc own rm) (hd : decode cc pc = .ok (.aastore, 1)) (q0 qk j : Nat) (hq : ws[q0]? = some (a, .inl (V.2.2 2, n, .inr (.inr (.inr (.inr f)))))) (hv : ws[qk]? = some (v, .inr (3, vs))) (hi : i = nI j) (hj : j < n) (hn : n < 2 ^ 31) (hw : ws.set q0 (a, .inl (V.2.2 2, n, .inr (.inr (.inr (.inr (va_up f j (some v)))))) ) = ws') (kk : G V K nL nc ns ws' (pc + 1) lv st) : G V K nL nc ns ws pc lv (.ref v :: .int i :: .ref a :: st) := by
  obtain ⟨l, D, cy⟩ := V; obtain ⟨p, e, R, s, m, args, below, meth, c, A, H0, Q⟩ := K
  obtain ⟨hx, hb, hml, hown, ht, hK, hN', hlk, hR, hA⟩ := cx
  subst hw
  intro H locs ls hP hD hS hl
  refine va_astq (r := (RX3, TX3, 12)) hx hb hK hP hD hS q0 2 qk 3 hq rfl hv rfl (by rw [hi]; exact vp_in_nI hj hn) hd (fun H1 locs1 p1 d1 s1 => ?_)
  rw [hi, nI_clamp (Nat.lt_trans hj hn)] at p1 d1
  exact kk H1 locs1 ls p1 d1 s1 hl
/-- a row of references, known by its places -/
theorem g_arrq {a n : Nat} {f g : Nat → Option Nat} (q0 : Nat) (hq : ws[q0]? = some (a, .inl (V.2.2 2, n, .inr (.inr (.inr (.inr f)))))) (h : ∀ j, j < n → f j = g j) (hw : ws.set q0 (a, .inl (V.2.2 2, n, .inr (.inr (.inr (.inr g))))) = ws') (k : G V K nL nc ns ws' pc lv st) : G V K nL nc ns ws pc lv st := by
  obtain ⟨l, D, cy⟩ := V; obtain ⟨p, e, R, s, m, args, below, meth, c, A, H0, Q⟩ := K
  subst hw
  intro H locs ls hP hD hS hl
  refine k H locs ls (hP.set hD hq ?_ (fun _ _ => rfl)) (hD.set hq) hS hl
  have h0 := hP q0 _ hq
  have e : vp_cell (cy 2) (n, .inr (.inr (.inr (.inr f)))) = vp_cell (cy 2) (n, .inr (.inr (.inr (.inr g)))) := by
    rw [vp_cell_q, vp_cell_q]
    unfold arrV
    have : (fun j : Fin n => va_rf (f j.val)) = (fun j : Fin n => va_rf (g j.val)) := by
      funext j; rw [h j.val j.isLt]
    rw [this]
  show H[a]? = some (vp_cell (cy 2) (n, .inr (.inr (.inr (.inr g)))))
  rw [← e]
  exact h0
end RAL
section RAB
variable {V : VT} {K : KT} {nL nc ns : Nat} {Ws Ws' Ws2 : List va_W} {pc : Nat} {lv lv' : List (Nat × Value)} {st rest : List Value} {cc : ByteArray} {own : String} {rm : Room} {blk w : va_W}
theorem g_bl (h : Ws ++ [w] = Ws') (k : G V K nL nc ns Ws'.flatten pc lv st) : G V K nL nc ns (Ws.flatten ++ w) pc lv st := by
  subst h
  rw [List.flatten_append] at k
  rw [show ([w] : List va_W).flatten = w from List.append_nil w] at k
  exact k
theorem g_bl2 (h : Ws ++ Ws2 = Ws') (k : G V K nL nc ns Ws'.flatten pc lv st) : G V K nL nc ns (Ws.flatten ++ Ws2.flatten) pc lv st := by
  subst h
  rw [List.flatten_append] at k
  exact k
theorem b_putF {idx ci k a : Nat} {ty : FieldType} {fs : List Value} {v : Value} {T : u_T} {N : Nat} (cx : Cx V K nL cc own rm) (hci : CxI K) (hf : FLk own idx ci k true ty) (hcl : vwCl[ci]? = some (own, T, N)) (hlk0 : Cond.fieldLink own idx own (T k).2.1 (T k).2.2.1 ∈ lw_good) (hd : decode cc pc = .ok (.putfield idx, 3)) (bi j : Nat) (hb : Ws[bi]? = some blk) (hq : blk[j]? = some (a, .inr (ci, fs))) (hn : narrow ty v = v) (hfit : fits ty v = true) (hlen : k < fs.length) {blk' : va_W} (hw1 : blk.set j (a, .inr (ci, fs.set k v)) = blk') (hw : Ws.set bi blk' = Ws') (kk : G V K nL nc ns Ws'.flatten (pc + 3) lv st) : G V K nL nc ns Ws.flatten pc lv (v :: .ref a :: st) := by
  obtain ⟨q, h1, h2⟩ := bk_get hb hq
  exact g_putF cx hci hf hcl hlk0 hd q h1 hn hfit hlen (h2 _) (by rw [hw1, hw]; exact kk)
theorem b_aast {a n v : Nat} {vs : List Value} {f : Nat → Option Nat} {i : Int32} {blk2 : va_W} (cx : Cx V K nL cc own rm) (hd : decode cc pc = .ok (.aastore, 1)) (bi j2 bk jk j : Nat) (hb : Ws[bi]? = some blk) (hq : blk[j2]? = some (a, .inl (V.2.2 2, n, .inr (.inr (.inr (.inr f)))))) (hb2 : Ws[bk]? = some blk2) (hv : blk2[jk]? = some (v, .inr (3, vs))) (hi : i = nI j) (hj : j < n) (hn : n < 2 ^ 31) {blk' : va_W} (hw1 : blk.set j2 (a, .inl (V.2.2 2, n, .inr (.inr (.inr (.inr (va_up f j (some v))))))) = blk') (hw : Ws.set bi blk' = Ws') (kk : G V K nL nc ns Ws'.flatten (pc + 1) lv st) : G V K nL nc ns Ws.flatten pc lv (.ref v :: .int i :: .ref a :: st) := by
  obtain ⟨q, h1, h2⟩ := bk_get hb hq
  obtain ⟨q2, h3, -⟩ := bk_get hb2 hv
  exact g_aast (ci := 3) cx hd q q2 j h1 h3 hi hj hn (h2 _) (by rw [hw1, hw]; exact kk)
theorem b_arrq {a n : Nat} {f g : Nat → Option Nat} (bi j2 : Nat) (hb : Ws[bi]? = some blk) (hq : blk[j2]? = some (a, .inl (V.2.2 2, n, .inr (.inr (.inr (.inr f)))))) (h : ∀ j, j < n → f j = g j) {blk' : va_W} (hw1 : blk.set j2 (a, .inl (V.2.2 2, n, .inr (.inr (.inr (.inr g))))) = blk') (hw : Ws.set bi blk' = Ws') (kk : G V K nL nc ns Ws'.flatten pc lv st) : G V K nL nc ns Ws.flatten pc lv st := by
  obtain ⟨q, h1, h2⟩ := bk_get hb hq
  exact g_arrq q h1 h (h2 _) (by rw [hw1, hw]; exact kk)
end RAB
def rIni : S2 := rAddDrive (rEmpty (fun _ _ => 0)) 0 1 0
def f6 (r0 r1 r2 r3 r4 r5 : Nat) : Nat → Nat := fun j => if j = 0 then r0 else if j = 1 then r1 else if j = 2 then r2 else if j = 3 then r3 else if j = 4 then r4 else r5
def f2 (r0 r1 : Nat) : Nat → Nat := fun j => if j = 0 then r0 else r1
