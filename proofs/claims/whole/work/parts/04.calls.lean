/-! Contracts, and calls by contract -/
def rf_P (V : VT) (av : List Value) (wi : va_W) (sz : Nat) : Array Value → State → Prop := va_Pc av (fun U => U.heap.size = sz ∧ va_P V.2.1 vwCl wi U.heap ∧ va_K V.2.1 vwCl (rf_tys V.2.2) U ∧ rf_N U ∧ va_D (fun _ => True) wi)
def rf_B (V : VT) (wi : va_W) (sz : Nat) (w : va_W) (t : State) : Prop := va_P V.2.1 vwCl w t.heap ∧ va_D (va_A wi sz) w
/-- a contract of a method that answers an int or a boolean: its arguments, its cells, what may come out -/
def CI (V : VT) (y : MethodName) (cc : ByteArray) (maxL : Nat) (ty : FieldType) (rm : Room) (av : List Value) (wi : va_W) (Post : Int32 → va_W → Prop) : Prop :=
  ∀ sz : Nat, Met V.1 y (.code y cc maxL (some ty) :: lw_good) rm (rf_P V av wi sz) (va_Qi Post (rf_B V wi sz) (va_A wi sz)) rm.cells rm.slots (va_A wi sz)
/-- of one that answers nothing -/
def CV (V : VT) (y : MethodName) (cc : ByteArray) (maxL : Nat) (rm : Room) (av : List Value) (wi : va_W) (Post : va_W → Prop) : Prop :=
  ∀ sz : Nat, Met V.1 y (.code y cc maxL none :: lw_good) rm (rf_P V av wi sz) (va_Qv Post (rf_B V wi sz) (va_A wi sz)) rm.cells rm.slots (va_A wi sz)
section RFC
variable {V : VT} {y : MethodName} {cc : ByteArray} {maxL : Nat} {ty : FieldType} {rm : Room} {av : List Value} {wi : va_W}
theorem CI_intro {Post : Int32 → va_W → Prop} (hy : plainName y.cls = true) (hlen : (lg_sl av).length ≤ maxL) (body : ∀ K : KT, Cx V K maxL cc y.cls rm → (∀ (ws : va_W) (pc : Nat) (lv : List (Nat × Value)) (r : Int32), decode cc pc = .ok (.ireturn, 1) → narrow ty (.int r) = .int r → Post r ws → G V K maxL rm.cells rm.slots ws pc lv [.int r]) → G V K maxL 0 0 wi 0 (lv_args 0 av) []) : CI V y cc maxL ty rm av wi Post := by
  obtain ⟨l, D, cy⟩ := V
  intro sz
  refine Met.ofW (cc := cc) (maxL := maxL) (ret := some ty) hy rfl ?_
  intro p e s m args below meth c s₁ B hml hv
  obtain ⟨rfl, hsz, hP, hK, hN, hD0⟩ := hv
  have hx := B.exec
  have hb := B.bytes
  have hr := B.returns
  have hts := atoms_spec (ws := .code y cc maxL (some ty) :: lw_good) B.pre
  have hown : s.vm.findClass y.cls = some m.cls := findClass_of_methodNamed B.named
  have hlocks := B.notSynchronized
  subst hsz
  have hD := hD0.self (sz := s.heap.size)
  have hl := lv_entry av (n := maxL) hlen
  rw [lg_entry_eq]
  exact body (p, e, rm, s, m, av.toArray, below, meth, c, va_A wi s.heap.size, s.heap, _) ⟨hx, hb, hml, hown, fun w h => hts w (List.mem_cons_of_mem _ h), hK, hN, hlocks, rfl, fun q h => Or.inr h⟩
    (fun ws pc lv r hd hn hp H locs ls hP hD hS hl => W.zret hx hb hr hn (fun t ht hW => ⟨⟨r, ws, rfl, hp, by rw [ht]; exact hP, hD⟩, hS.F ht⟩) hS.2.2 hd hlocks)
    s.heap [] _ hP hD va_S.rf hl
theorem CV_intro {Post : va_W → Prop} (hy : plainName y.cls = true) (hlen : (lg_sl av).length ≤ maxL) (body : ∀ K : KT, Cx V K maxL cc y.cls rm → (y.name = "<init>" → CxI K) → (∀ (ws : va_W) (pc : Nat) (lv : List (Nat × Value)), decode cc pc = .ok (.return_, 1) → Post ws → G V K maxL rm.cells rm.slots ws pc lv []) → G V K maxL 0 0 wi 0 (lv_args 0 av) []) : CV V y cc maxL rm av wi Post := by
  obtain ⟨l, D, cy⟩ := V
  intro sz
  refine Met.ofW (cc := cc) (maxL := maxL) (ret := none) hy rfl ?_
  intro p e s m args below meth c s₁ B hml hv
  obtain ⟨rfl, hsz, hP, hK, hN, hD0⟩ := hv
  have hx := B.exec
  have hb := B.bytes
  have hr := B.returns
  have hts := atoms_spec (ws := .code y cc maxL none :: lw_good) B.pre
  have hown : s.vm.findClass y.cls = some m.cls := findClass_of_methodNamed B.named
  have hlocks := B.notSynchronized
  have hin : meth.name = y.name := (name_of_methodNamed B.named B.method).1
  subst hsz
  have hD := hD0.self (sz := s.heap.size)
  have hl := lv_entry av (n := maxL) hlen
  rw [lg_entry_eq]
  exact body (p, e, rm, s, m, av.toArray, below, meth, c, va_A wi s.heap.size, s.heap, _) ⟨hx, hb, hml, hown, fun w h => hts w (List.mem_cons_of_mem _ h), hK, hN, hlocks, rfl, fun q h => Or.inr h⟩ (fun h => hin.trans h)
    (fun ws pc lv hd hp H locs ls hP hD hS hl => W.vret hx hb hr (fun t ht hW => ⟨⟨ws, rfl, hp, by rw [ht]; exact hP, hD⟩, hS.F ht⟩) hS.2.2 hd hlocks)
    s.heap [] _ hP hD va_S.rf hl
end RFC
theorem rf_good_in {L : List Cond} (h : ∀ w ∈ L, w ∈ lw_good) : GoodIn lw_good L := fun w hw => lw_good_self w (h w hw)
/-- an instance method as 'own' names it by its entry idx -/
def MLk (own : String) (idx : Nat) (y : MethodName) (cc : ByteArray) (maxL : Nat) (ret : Option FieldType) (n : Nat) : Prop :=
  Cond.methodLink own idx y ∈ lw_good ∧ Cond.instanceMethod y ∈ lw_good ∧ Cond.selects y.cls y y ∈ lw_good ∧ Cond.initialized y.cls ∈ lw_good ∧ Cond.code y cc maxL ret ∈ lw_good ∧ y.cls ≠ "java/lang/invoke/MethodHandle" ∧ y.cls ≠ "java/lang/invoke/VarHandle" ∧ (parseMethodDescriptor y.desc).map (fun d => d.parameters.length) = some n
/-- a static one -/
def MLs (own : String) (idx : Nat) (y : MethodName) (cc : ByteArray) (maxL : Nat) (ret : Option FieldType) (n : Nat) : Prop :=
  Cond.methodLink own idx y ∈ lw_good ∧ Cond.static y ∈ lw_good ∧ Cond.initialized y.cls ∈ lw_good ∧ Cond.code y cc maxL ret ∈ lw_good ∧ y.cls ≠ "java/lang/invoke/MethodHandle" ∧ y.cls ≠ "java/lang/invoke/VarHandle" ∧ (parseMethodDescriptor y.desc).map (fun d => d.parameters.length) = some n
/-- cells put in the places is -/
def rf_rep (ws : va_W) : List Nat → va_W → va_W
  | i :: is, c :: w => (rf_rep ws is w).set i c
  | _, _ => ws
theorem rf_rep_get (ws : va_W) : ∀ (is : List Nat) (w : va_W) (k : Nat) (q : Nat × va_E), is.length = w.length → (rf_rep ws is w)[k]? = some q → (∃ j : Nat, w[j]? = some q) ∨ (ws[k]? = some q ∧ k ∉ is)
  | [], [], k, q, _, h => Or.inr ⟨h, List.not_mem_nil⟩
  | [], c :: w, k, q, hl, h => by simp at hl
  | i :: is, [], k, q, hl, h => by simp at hl
  | i :: is, c :: w, k, q, hl, h => by
    simp only [rf_rep] at h
    by_cases hk : k = i
    · subst hk
      have hlt : k < (rf_rep ws is w).length := by
        have := (List.getElem?_eq_some_iff.mp h).1
        simpa using this
      rw [List.getElem?_set_self hlt] at h
      exact Or.inl ⟨0, h⟩
    · rw [List.getElem?_set_ne (Ne.symm hk)] at h
      rcases rf_rep_get ws is w k q (by simpa using hl) h with ⟨j, hj⟩ | ⟨h1, h2⟩
      · exact Or.inl ⟨j + 1, hj⟩
      · exact Or.inr ⟨h1, fun hm => (List.mem_cons.mp hm).elim hk h2⟩
theorem rf_rep_ad (ws : va_W) : ∀ (is : List Nat) (w : va_W) (k : Nat) (q : Nat × va_E), is.map (fun i => (ws[i]?).map (fun c => c.1)) = w.map (fun c => some c.1) → (rf_rep ws is w)[k]? = some q → ∃ q0, ws[k]? = some q0 ∧ q0.1 = q.1
  | [], [], k, q, _, h => ⟨q, h, rfl⟩
  | [], c :: w, k, q, hl, h => by simp at hl
  | i :: is, [], k, q, hl, h => by simp at hl
  | i :: is, c :: w, k, q, hl, h => by
    simp only [List.map_cons, List.cons.injEq] at hl
    simp only [rf_rep] at h
    by_cases hk : k = i
    · subst hk
      have hlt : k < (rf_rep ws is w).length := by
        have := (List.getElem?_eq_some_iff.mp h).1
        simpa using this
      rw [List.getElem?_set_self hlt] at h
      cases h
      cases hw : ws[k]? with
      | none => rw [hw] at hl; simp at hl
      | some q0 => rw [hw] at hl; exact ⟨q0, rfl, by simpa using hl.1⟩
    · rw [List.getElem?_set_ne (Ne.symm hk)] at h
      exact rf_rep_ad ws is w k q hl.2 h
theorem rf_rep_ok {A0 : Nat → Prop} {D : va_G} {cl : List vw_C} {ws wc wo : va_W} {H H1 : Heap} (hP : va_P D cl ws H) (hD : va_D A0 ws) (is : List Nat) (hC : is.map (fun i => ws[i]?) = wc.map some) (ha : wo.map (fun c => c.1) = wc.map (fun c => c.1))
    (hk : ∀ q : Nat, q < H.size → ¬ va_A wc H.size q → H1[q]? = H[q]?) (hP1 : va_P D cl wo H1) : va_P D cl (rf_rep ws is wo) H1 ∧ va_D A0 (rf_rep ws is wo) := by
  have hlen : is.length = wo.length := by
    have h1 := congrArg List.length hC
    have h2 := congrArg List.length ha
    simp at h1 h2
    omega
  have hads : is.map (fun i => (ws[i]?).map (fun c => c.1)) = wo.map (fun c => some c.1) := by
    have h1 : is.map (fun i => (ws[i]?).map (fun c => c.1)) = (is.map (fun i => ws[i]?)).map (fun o => o.map (fun c => c.1)) := by rw [List.map_map]; rfl
    have h2 : wo.map (fun c => some c.1) = (wo.map (fun c => c.1)).map some := by rw [List.map_map]; rfl
    rw [h1, hC, h2, ha, List.map_map, List.map_map]
    rfl
  refine ⟨fun k q hq => ?_, fun i j x y hi hj hxy => ?_, fun k q hq => ?_⟩
  · rcases rf_rep_get ws is wo k q hlen hq with ⟨j, hj⟩ | ⟨h1, h2⟩
    · exact hP1 j q hj
    · have hlt := (hP k q h1).lt
      refine (hP k q h1).kept (hk q.1 hlt (fun h => ?_))
      rcases h with ⟨k2, e, h⟩ | h
      · have h3 : (is.map (fun i => ws[i]?))[k2]? = some (some (q.1, e)) := by rw [hC, List.getElem?_map, h]; rfl
        rw [List.getElem?_map] at h3
        cases hi : is[k2]? with
        | none => rw [hi] at h3; cases h3
        | some i =>
          rw [hi] at h3
          have h4 := hD.1 k i q (q.1, e) h1 (Option.some.inj h3) rfl
          exact h2 (h4 ▸ List.mem_of_getElem? hi)
      · omega
  · obtain ⟨x0, h1, h2⟩ := rf_rep_ad ws is wo i x hads hi
    obtain ⟨y0, h3, h4⟩ := rf_rep_ad ws is wo j y hads hj
    exact hD.1 i j x0 y0 h1 h3 (h2.trans (hxy.trans h4.symm))
  · obtain ⟨q0, h1, h2⟩ := rf_rep_ad ws is wo k q hads hq
    rw [← h2]
    exact hD.2 k q0 h1
theorem rf_P.blind {V : VT} {av : List Value} {wi : va_W} {sz : Nat} : FrameBlind (rf_P V av wi sz) := fun a U g mk q => by
  obtain ⟨q0, q1, qP, qK, qN, qD⟩ := q
  exact ⟨q0, q1, qP, va_K.moved (u := U) (U := U.calling g mk a) (Vm.Alike.refl U.vm) qK, qN.calling, qD⟩
section RFK
variable {V : VT} {K : KT} {nL nc ns : Nat} {ws ws' wc wo : va_W} {pc : Nat} {lv lv' : List (Nat × Value)} {st rest : List Value} {cc : ByteArray} {own : String} {rm : Room}
variable {y : MethodName} {c2 : ByteArray} {maxL : Nat} {ty : FieldType} {rm2 : Room} {b : Nat} {As : List Value} {idx n : Nat}
/-- a call of an instance method that answers r0 and makes its cells wc into wo -/
theorem g_calli {r0 : Int32} (cx : Cx V K nL cc own rm) (hM : CI V y c2 maxL ty rm2 (.ref b :: As) wc (fun r w => r = r0 ∧ w = wo)) (hl : MLk own idx y c2 maxL (some ty) n) (hd : decode cc pc = .ok (.invokevirtual idx, 3)) (is : List Nat) (hn : va_nd is = true) (hC : is.map (fun i => ws[i]?) = wc.map some) (ha : wo.map (fun c => c.1) = wc.map (fun c => c.1)) (hw : rf_rep ws is wo = ws') (q0 ci : Nat) {fs : List Value} {q : vw_C} (hq0 : wc[q0]? = some (b, .inr (ci, fs))) (hci : vwCl[ci]? = some q) (hqc : q.1 = y.cls) (hst : st = As.reverse ++ .ref b :: rest) (hlen : As.length = n) (hroom : (rest.map fun v => v.category).sum ≤ 8) (hfr : (rm2.frames + 1 ≤ rm.frames ∧ 8 + (maxL + 11) + rm2.locals ≤ rm.locals)) (hcs : nc + rm2.cells ≤ rm.cells ∧ ns + rm2.slots ≤ rm.slots)
    (k : G V K nL (nc + rm2.cells) (ns + rm2.slots) ws' (pc + 3) lv (.int r0 :: rest)) : G V K nL nc ns ws pc lv st := by
  subst hw; subst hst
  obtain ⟨l, D, cy⟩ := V; obtain ⟨p, e, R, s, m, args, below, meth, c, A, H0, Q⟩ := K
  obtain ⟨hx, hb, hml, hown, ht, hK, hN, hlk, hR, hA⟩ := cx
  subst hR
  obtain ⟨m1, m2, m3, m4, m5, m6, m7, m8⟩ := hl
  intro H locs ls hP hD hS hl
  have hFc := va_free (wc := wc) hD hS hA is hC
  have hPc : va_P D vwCl wc H := fun k q hk => by
    have h3 : (is.map (fun i => ws[i]?))[k]? = some (some q) := by rw [hC, List.getElem?_map, hk]; rfl
    rw [List.getElem?_map] at h3
    cases hi : is[k]? with
    | none => rw [hi] at h3; cases h3
    | some i => rw [hi] at h3; exact hP i q (Option.some.inj h3)
  have hrecv := va_recv hK hPc hci hq0
  have hgi : GoodIn lw_good (wsV own idx y.cls y (.code y c2 maxL (some ty) :: lw_good)) := rf_good_in (fun w hw => by
    simp only [wsV, List.cons_append, List.nil_append, List.mem_cons] at hw
    rcases hw with rfl | rfl | rfl | rfl | rfl | hw
    · exact m1
    · exact m2
    · exact m3
    · exact m4
    · exact m5
    · exact hw)
  have hDc := hD.sub is hn hC
  refine va_calli (va_runV (As := As) (rest := rest) ⟨hx, hb, hml, hown, ht⟩ (hM H.size) (cwV n ht hgi rfl rfl rfl ⟨rfl, m6, m7, m8⟩ hfr) ⟨rf_P.blind, by rw [← hqc]; exact hrecv, fun U hU hW => ⟨rfl, by rw [hU], by rw [hU]; exact hPc, va_K.moved hW.alike hK, hN.warm hW, hDc.weaken (fun _ _ _ _ => trivial)⟩⟩ rfl hlen hl.1 rfl (lv_room hroom) hd hcs) hS (fun q _ h => hFc q h) hFc (fun r w t H1 locs1 e1 hvm hpost hB hz hk hS1 => ?_)
  obtain ⟨rfl, rfl⟩ := hpost
  obtain ⟨hP1, hD1⟩ := hB
  rw [e1] at hP1
  obtain ⟨hP2, hD2⟩ := rf_rep_ok hP hD is hC ha hk hP1
  exact k H1 locs1 ls hP2 hD2 hS1 hl
/-- a call of an instance method that answers nothing and makes its cells wc into wo -/
theorem g_callv (cx : Cx V K nL cc own rm) (hM : CV V y c2 maxL rm2 (.ref b :: As) wc (fun w => w = wo)) (hl : MLk own idx y c2 maxL none n) (hd : decode cc pc = .ok (.invokevirtual idx, 3)) (is : List Nat) (hn : va_nd is = true) (hC : is.map (fun i => ws[i]?) = wc.map some) (ha : wo.map (fun c => c.1) = wc.map (fun c => c.1)) (hw : rf_rep ws is wo = ws') (q0 ci : Nat) {fs : List Value} {q : vw_C} (hq0 : wc[q0]? = some (b, .inr (ci, fs))) (hci : vwCl[ci]? = some q) (hqc : q.1 = y.cls) (hst : st = As.reverse ++ .ref b :: rest) (hlen : As.length = n) (hroom : (rest.map fun v => v.category).sum ≤ 8) (hfr : (rm2.frames + 1 ≤ rm.frames ∧ 8 + (maxL + 11) + rm2.locals ≤ rm.locals)) (hcs : nc + rm2.cells ≤ rm.cells ∧ ns + rm2.slots ≤ rm.slots)
    (k : G V K nL (nc + rm2.cells) (ns + rm2.slots) ws' (pc + 3) lv rest) : G V K nL nc ns ws pc lv st := by
  subst hw; subst hst
  obtain ⟨l, D, cy⟩ := V; obtain ⟨p, e, R, s, m, args, below, meth, c, A, H0, Q⟩ := K
  obtain ⟨hx, hb, hml, hown, ht, hK, hN, hlk, hR, hA⟩ := cx
  subst hR
  obtain ⟨m1, m2, m3, m4, m5, m6, m7, m8⟩ := hl
  intro H locs ls hP hD hS hl
  have hFc := va_free (wc := wc) hD hS hA is hC
  have hPc : va_P D vwCl wc H := fun k q hk => by
    have h3 : (is.map (fun i => ws[i]?))[k]? = some (some q) := by rw [hC, List.getElem?_map, hk]; rfl
    rw [List.getElem?_map] at h3
    cases hi : is[k]? with
    | none => rw [hi] at h3; cases h3
    | some i => rw [hi] at h3; exact hP i q (Option.some.inj h3)
  have hrecv := va_recv hK hPc hci hq0
  have hgi : GoodIn lw_good (wsV own idx y.cls y (.code y c2 maxL none :: lw_good)) := rf_good_in (fun w hw => by
    simp only [wsV, List.cons_append, List.nil_append, List.mem_cons] at hw
    rcases hw with rfl | rfl | rfl | rfl | rfl | hw
    · exact m1
    · exact m2
    · exact m3
    · exact m4
    · exact m5
    · exact hw)
  have hDc := hD.sub is hn hC
  refine va_callv (va_runV (As := As) (rest := rest) ⟨hx, hb, hml, hown, ht⟩ (hM H.size) (cwV n ht hgi rfl rfl rfl ⟨rfl, m6, m7, m8⟩ hfr) ⟨rf_P.blind, by rw [← hqc]; exact hrecv, fun U hU hW => ⟨rfl, by rw [hU], by rw [hU]; exact hPc, va_K.moved hW.alike hK, hN.warm hW, hDc.weaken (fun _ _ _ _ => trivial)⟩⟩ rfl hlen hl.1 rfl (lv_room hroom) hd hcs) hS (fun q _ h => hFc q h) hFc (fun w t H1 locs1 e1 hvm hpost hB hz hk hS1 => ?_)
  subst hpost
  obtain ⟨hP1, hD1⟩ := hB
  rw [e1] at hP1
  obtain ⟨hP2, hD2⟩ := rf_rep_ok hP hD is hC ha hk hP1
  exact k H1 locs1 ls hP2 hD2 hS1 hl
/-- a call of a static method that answers r0 and makes its cells wc into wo -/
theorem g_callsi {r0 : Int32} (cx : Cx V K nL cc own rm) (hM : CI V y c2 maxL ty rm2 As wc (fun r w => r = r0 ∧ w = wo)) (hl : MLs own idx y c2 maxL (some ty) n) (hd : decode cc pc = .ok (.invokestatic idx, 3)) (is : List Nat) (hn : va_nd is = true) (hC : is.map (fun i => ws[i]?) = wc.map some) (ha : wo.map (fun c => c.1) = wc.map (fun c => c.1)) (hw : rf_rep ws is wo = ws') (hst : st = As.reverse ++ rest) (hlen : As.length = n) (hroom : (rest.map fun v => v.category).sum ≤ 8) (hfr : (rm2.frames + 1 ≤ rm.frames ∧ 8 + (maxL + 11) + rm2.locals ≤ rm.locals)) (hcs : nc + rm2.cells ≤ rm.cells ∧ ns + rm2.slots ≤ rm.slots)
    (k : G V K nL (nc + rm2.cells) (ns + rm2.slots) ws' (pc + 3) lv (.int r0 :: rest)) : G V K nL nc ns ws pc lv st := by
  subst hw; subst hst
  obtain ⟨l, D, cy⟩ := V; obtain ⟨p, e, R, s, m, args, below, meth, c, A, H0, Q⟩ := K
  obtain ⟨hx, hb, hml, hown, ht, hK, hN, hlk, hR, hA⟩ := cx
  subst hR
  obtain ⟨m1, m2, m3, m4, m5, m6, m7⟩ := hl
  intro H locs ls hP hD hS hl
  have hFc := va_free (wc := wc) hD hS hA is hC
  have hPc : va_P D vwCl wc H := fun k q hk => by
    have h3 : (is.map (fun i => ws[i]?))[k]? = some (some q) := by rw [hC, List.getElem?_map, hk]; rfl
    rw [List.getElem?_map] at h3
    cases hi : is[k]? with
    | none => rw [hi] at h3; cases h3
    | some i => rw [hi] at h3; exact hP i q (Option.some.inj h3)
  have hgi : GoodIn lw_good (va_wsS own idx y (.code y c2 maxL (some ty) :: lw_good)) := rf_good_in (fun w hw => by
    simp only [va_wsS, List.cons_append, List.nil_append, List.mem_cons] at hw
    rcases hw with rfl | rfl | rfl | rfl | hw
    · exact m1
    · exact m2
    · exact m3
    · exact m4
    · exact hw)
  have hDc := hD.sub is hn hC
  refine va_calli (va_runS (As := As) (rest := rest) ⟨hx, hb, hml, hown, ht⟩ (hM H.size) (va_cwS n ht hgi rfl rfl rfl ⟨m5, m6, m7⟩ hfr) ⟨rf_P.blind, fun U hU hW => ⟨rfl, by rw [hU], by rw [hU]; exact hPc, va_K.moved hW.alike hK, hN.warm hW, hDc.weaken (fun _ _ _ _ => trivial)⟩⟩ rfl hlen hl.1 rfl (lv_room hroom) hd hcs) hS (fun q _ h => hFc q h) hFc (fun r w t H1 locs1 e1 hvm hpost hB hz hk hS1 => ?_)
  obtain ⟨rfl, rfl⟩ := hpost
  obtain ⟨hP1, hD1⟩ := hB
  rw [e1] at hP1
  obtain ⟨hP2, hD2⟩ := rf_rep_ok hP hD is hC ha hk hP1
  exact k H1 locs1 ls hP2 hD2 hS1 hl
/-- a call of a static method that answers nothing and makes its cells wc into wo -/
theorem g_callsv (cx : Cx V K nL cc own rm) (hM : CV V y c2 maxL rm2 As wc (fun w => w = wo)) (hl : MLs own idx y c2 maxL none n) (hd : decode cc pc = .ok (.invokestatic idx, 3)) (is : List Nat) (hn : va_nd is = true) (hC : is.map (fun i => ws[i]?) = wc.map some) (ha : wo.map (fun c => c.1) = wc.map (fun c => c.1)) (hw : rf_rep ws is wo = ws') (hst : st = As.reverse ++ rest) (hlen : As.length = n) (hroom : (rest.map fun v => v.category).sum ≤ 8) (hfr : (rm2.frames + 1 ≤ rm.frames ∧ 8 + (maxL + 11) + rm2.locals ≤ rm.locals)) (hcs : nc + rm2.cells ≤ rm.cells ∧ ns + rm2.slots ≤ rm.slots)
    (k : G V K nL (nc + rm2.cells) (ns + rm2.slots) ws' (pc + 3) lv rest) : G V K nL nc ns ws pc lv st := by
  subst hw; subst hst
  obtain ⟨l, D, cy⟩ := V; obtain ⟨p, e, R, s, m, args, below, meth, c, A, H0, Q⟩ := K
  obtain ⟨hx, hb, hml, hown, ht, hK, hN, hlk, hR, hA⟩ := cx
  subst hR
  obtain ⟨m1, m2, m3, m4, m5, m6, m7⟩ := hl
  intro H locs ls hP hD hS hl
  have hFc := va_free (wc := wc) hD hS hA is hC
  have hPc : va_P D vwCl wc H := fun k q hk => by
    have h3 : (is.map (fun i => ws[i]?))[k]? = some (some q) := by rw [hC, List.getElem?_map, hk]; rfl
    rw [List.getElem?_map] at h3
    cases hi : is[k]? with
    | none => rw [hi] at h3; cases h3
    | some i => rw [hi] at h3; exact hP i q (Option.some.inj h3)
  have hgi : GoodIn lw_good (va_wsS own idx y (.code y c2 maxL none :: lw_good)) := rf_good_in (fun w hw => by
    simp only [va_wsS, List.cons_append, List.nil_append, List.mem_cons] at hw
    rcases hw with rfl | rfl | rfl | rfl | hw
    · exact m1
    · exact m2
    · exact m3
    · exact m4
    · exact hw)
  have hDc := hD.sub is hn hC
  refine va_callv (va_runS (As := As) (rest := rest) ⟨hx, hb, hml, hown, ht⟩ (hM H.size) (va_cwS n ht hgi rfl rfl rfl ⟨m5, m6, m7⟩ hfr) ⟨rf_P.blind, fun U hU hW => ⟨rfl, by rw [hU], by rw [hU]; exact hPc, va_K.moved hW.alike hK, hN.warm hW, hDc.weaken (fun _ _ _ _ => trivial)⟩⟩ rfl hlen hl.1 rfl (lv_room hroom) hd hcs) hS (fun q _ h => hFc q h) hFc (fun w t H1 locs1 e1 hvm hpost hB hz hk hS1 => ?_)
  subst hpost
  obtain ⟨hP1, hD1⟩ := hB
  rw [e1] at hP1
  obtain ⟨hP2, hD2⟩ := rf_rep_ok hP hD is hC ha hk hP1
  exact k H1 locs1 ls hP2 hD2 hS1 hl
end RFK
theorem rf_dn {P : Nat → Prop} (n : Nat) (h : ∀ i, i < n → P (i + 1) → P i) (hn : P n) : P 0 := by
  have : ∀ d, d ≤ n → P (n - d) := by
    intro d
    induction d with
    | zero => intro _; exact hn
    | succ d ih =>
      intro hd
      have h2 := ih (by omega)
      have h3 : n - (d + 1) + 1 = n - d := by omega
      exact h (n - (d + 1)) (by omega) (by rw [h3]; exact h2)
  have h0 := this n (Nat.le_refl n)
  rwa [Nat.sub_self] at h0
/-- a fold: what a counted loop leaves -/
def fl {σ : Type} (f : Nat → σ → σ) : Nat → σ → σ
  | 0, s => s
  | n + 1, s => f n (fl f n s)
