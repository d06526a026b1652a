/-! The judgement G: W with heap, locations and locals hidden; its rows; contracts CI, CV. -/
abbrev VT : Type := Launch × va_G × (Nat → ClassId)
/-- program, environment, room, entry state, method, its arguments, the frames below, its facts, code, the cells it may change, the heap at its start, its end -/
abbrev KT : Type := Program × Env × Room × State × MethodId × Array Value × List Frame × Method × Code × (Nat → Prop) × Heap × (State → Prop)
def rf_tys (cy : Nat → ClassId) : List (ClassId × FieldType) := [(cy 0, .int), (cy 1, .boolean), (cy 2, .object "RingFrames$Ring")]
def rf_N (U : State) : Prop := (∀ w ∈ lw_nst, va_Nw w U) ∧ va_AO "RingFrames$Ring" U
theorem rf_nst_form : ∀ w ∈ lw_nst, (∃ a i b n d h, w = .fieldLinkNest a i b n d h) ∨ ∃ a i x h, w = .methodLinkNest a i x h := by
  intro w hw
  have e : lw_nst.all (fun w => match w with | .fieldLinkNest .. => true | .methodLinkNest .. => true | _ => false) = true := by decide +kernel
  have h := List.all_eq_true.mp e w hw
  cases w <;> first | exact Or.inl ⟨_, _, _, _, _, _, rfl⟩ | exact Or.inr ⟨_, _, _, _, rfl⟩ | (exact absurd h (by simp))
theorem rf_N.warm {s U : State} (hW : s.WarmedH U.vm) (h : rf_N s) : rf_N U := by
  refine ⟨fun w hw => ?_, va_AO.moved hW.alike h.2⟩
  rcases rf_nst_form w hw with ⟨a, i, b, n, d, hh, rfl⟩ | ⟨a, i, x, hh, rfl⟩
  · exact va_Nw.warmF hW (h.1 _ hw)
  · exact va_Nw.warmM hW (h.1 _ hw)
theorem rf_N.calling {U : State} {g : JFrame} {mk : MethodId} {a : Array Value} (h : rf_N U) : rf_N (U.calling g mk a) := by
  refine ⟨fun w hw => ?_, va_AO.moved (u := U) (U := U.calling g mk a) (Vm.Alike.refl U.vm) h.2⟩
  rcases rf_nst_form w hw with ⟨_, _, _, _, _, _, rfl⟩ | ⟨_, _, _, _, rfl⟩
  · exact va_Nw.same rfl (u := U) (U := U.calling g mk a) rfl (h.1 _ hw)
  · exact va_Nw.same rfl (u := U) (U := U.calling g mk a) rfl (h.1 _ hw)
def G (V : VT) (K : KT) (nL nc ns : Nat) (ws : va_W) (pc : Nat) (lv : List (Nat × Value)) (st : List Value) : Prop :=
  match V, K with
  | (l, D, _), (p, e, R, s, m, args, below, meth, c, A, H0, Q) => ∀ (H : Heap) (locs : List Loc) (ls : Array Slot), va_P D vwCl ws H → va_D A ws → va_S A H0 H locs → lv_has ls nL lv → W p l e R s m args below meth c H locs nc ns Q (F0 m pc ls st)
def Cx (V : VT) (K : KT) (nL : Nat) (cc : ByteArray) (own : String) (rm : Room) : Prop :=
  match V, K with
  | (_, D, cy), (p, _, R, s, m, args, _, meth, c, A, H0, _) => p.tables.exec = Jvm.exec ∧ c.code = cc ∧ c.maxLocals = nL ∧ s.vm.findClass own = some m.cls ∧ (∀ w ∈ lw_good, w.before args s = true) ∧ va_K D vwCl (rf_tys cy) s ∧ rf_N s ∧ meth.locks = false ∧ R = rm ∧ (∀ q, H0.size ≤ q → A q)
/-- a constructor's own word -/
def CxI (K : KT) : Prop := match K with
  | (_, _, _, _, _, _, _, meth, _, _, _, _) => meth.name = "<init>"
def rf_ins : List (Nat × Value) → Nat → Value → List (Nat × Value)
  | [], i, v => [(i, v)]
  | (j, w) :: l, i, v => if i < j then (i, v) :: (j, w) :: l else (j, w) :: rf_ins l i v
def rf_set (lv : List (Nat × Value)) (i : Nat) (v : Value) : List (Nat × Value) := rf_ins (lv.filter (fun q => !(q.1 == i) && !(q.1 + 1 == i && q.2.category == 2))) i v
theorem rf_ins_mem : ∀ (l : List (Nat × Value)) (i : Nat) (v : Value) (q : Nat × Value), q ∈ rf_ins l i v → q = (i, v) ∨ q ∈ l
  | [], i, v, q, h => by simp only [rf_ins, List.mem_singleton] at h; exact Or.inl h
  | (j, w) :: l, i, v, q, h => by
    simp only [rf_ins] at h
    split at h
    · rcases List.mem_cons.mp h with h | h
      · exact Or.inl h
      · exact Or.inr h
    · rcases List.mem_cons.mp h with h | h
      · exact Or.inr (h ▸ List.mem_cons_self)
      · rcases rf_ins_mem l i v q h with h | h
        · exact Or.inl h
        · exact Or.inr (List.mem_cons_of_mem _ h)
theorem rf_has_set {ls : Array Slot} {nL : Nat} {lv : List (Nat × Value)} {i : Nat} {v : Value} (h : lv_has ls nL ((i, v) :: lv.filter (fun q => !(q.1 == i) && !(q.1 + 1 == i && q.2.category == 2)))) : lv_has ls nL (rf_set lv i v) :=
  ⟨h.1, h.2.1, fun q hq => h.2.2 q (by
    rcases rf_ins_mem _ _ _ _ hq with h | h
    · rw [h]; exact List.mem_cons_self
    · exact List.mem_cons_of_mem _ h)⟩
section RFG
variable {V : VT} {K : KT} {nL nc ns : Nat} {ws ws' : va_W} {pc : Nat} {lv lv' : List (Nat × Value)} {st : List Value} {cc : ByteArray} {own : String} {rm : Room}
theorem g_at {i : Nat} {v : Value} (h : lv.lookup i = some v) {ls : Array Slot} (hl : lv_has ls nL lv) : ls[i]? = some (.val v) := by
  have : ∀ (l : List (Nat × Value)), l.lookup i = some v → (i, v) ∈ l := by
    intro l
    induction l with
    | nil => intro h; simp at h
    | cons a l ih =>
      intro h
      obtain ⟨j, w⟩ := a
      rw [List.lookup_cons] at h
      by_cases e : i = j
      · subst e
        simp at h
        rw [h]; exact List.mem_cons_self
      · have e' : (i == j) = false := by simpa using e
        rw [e'] at h
        exact List.mem_cons_of_mem _ (ih h)
  exact hl.2.2 (i, v) (this lv h)
/-- fewer locals -/
theorem g_lv (lv' : List (Nat × Value)) (h : ∀ q ∈ lv', q ∈ lv) (k : G V K nL nc ns ws pc lv' st) : G V K nL nc ns ws pc lv st := by
  obtain ⟨l, D, cy⟩ := V; obtain ⟨p, e, R, s, m, args, below, meth, c, A, H0, Q⟩ := K
  intro H locs ls hP hD hS hl
  exact k H locs ls hP hD hS ⟨hl.1, hl.2.1, fun q hq => hl.2.2 q (h q hq)⟩
theorem g_widen (nc' ns' : Nat) (h1 : nc ≤ nc') (h2 : ns ≤ ns') (k : G V K nL nc' ns' ws pc lv st) : G V K nL nc ns ws pc lv st := by
  obtain ⟨l, D, cy⟩ := V; obtain ⟨p, e, R, s, m, args, below, meth, c, A, H0, Q⟩ := K
  intro H locs ls hP hD hS hl
  exact W.widen h1 h2 (k H locs ls hP hD hS hl)
/-- the world's cells in another order, or fewer -/
theorem g_ws (is : List Nat) (hn : va_nd is = true) (hs : is.map (fun i => ws[i]?) = ws'.map some) (k : G V K nL nc ns ws' pc lv st) : G V K nL nc ns ws pc lv st := by
  obtain ⟨l, D, cy⟩ := V; obtain ⟨p, e, R, s, m, args, below, meth, c, A, H0, Q⟩ := K
  intro H locs ls hP hD hS hl
  refine k H locs ls (hP.sub is ?_) (hD.sub is hn hs) hS hl
  have : ∀ (is : List Nat) (w : va_W), is.map (fun i => ws[i]?) = w.map some → is.filterMap (fun i => ws[i]?) = w := by
    intro is
    induction is with
    | nil => intro w h; cases w with
      | nil => rfl
      | cons a w => simp at h
    | cons i is ih => intro w h; cases w with
      | nil => simp at h
      | cons a w =>
        simp only [List.map_cons, List.cons.injEq] at h
        rw [List.filterMap_cons, h.1, ih w h.2]
  exact this is ws' hs
theorem g_iconst (cx : Cx V K nL cc own rm) {n : Int} {v : Int32} (hd : decode cc pc = .ok (.iconst n, 1)) (hv : Int32.ofInt n = v) (k : G V K nL nc ns ws (pc + 1) lv (.int v :: st)) : G V K nL nc ns ws pc lv st := by
  obtain ⟨l, D, cy⟩ := V; obtain ⟨p, e, R, s, m, args, below, meth, c, A, H0, Q⟩ := K
  obtain ⟨hx, hb, hml, hown, ht, hK, hN, hlk, hR, hA⟩ := cx
  intro H locs ls hP hD hS hl
  exact lv_iconst hx hb hd hv (k H locs ls hP hD hS hl)
theorem g_bipush (cx : Cx V K nL cc own rm) {n : Int} {v : Int32} (hd : decode cc pc = .ok (.bipush n, 2)) (hv : (Int8.ofInt n).toInt32 = v) (k : G V K nL nc ns ws (pc + 2) lv (.int v :: st)) : G V K nL nc ns ws pc lv st := by
  obtain ⟨l, D, cy⟩ := V; obtain ⟨p, e, R, s, m, args, below, meth, c, A, H0, Q⟩ := K
  obtain ⟨hx, hb, hml, hown, ht, hK, hN, hlk, hR, hA⟩ := cx
  intro H locs ls hP hD hS hl
  exact lv_bipush hx hb hd hv (k H locs ls hP hD hS hl)
theorem g_sipush (cx : Cx V K nL cc own rm) {n : Int} {v : Int32} (hd : decode cc pc = .ok (.sipush n, 3)) (hv : (Int16.ofInt n).toInt32 = v) (k : G V K nL nc ns ws (pc + 3) lv (.int v :: st)) : G V K nL nc ns ws pc lv st := by
  obtain ⟨l, D, cy⟩ := V; obtain ⟨p, e, R, s, m, args, below, meth, c, A, H0, Q⟩ := K
  obtain ⟨hx, hb, hml, hown, ht, hK, hN, hlk, hR, hA⟩ := cx
  intro H locs ls hP hD hS hl
  exact lv_sipush hx hb hd hv (k H locs ls hP hD hS hl)
theorem g_ldc (cx : Cx V K nL cc own rm) {i : Nat} {v : Int32} (hw : Cond.constant own i v ∈ lw_good) (hd : decode cc pc = .ok (.ldc i, 2)) (k : G V K nL nc ns ws (pc + 2) lv (.int v :: st)) : G V K nL nc ns ws pc lv st := by
  obtain ⟨l, D, cy⟩ := V; obtain ⟨p, e, R, s, m, args, below, meth, c, A, H0, Q⟩ := K
  obtain ⟨hx, hb, hml, hown, ht, hK, hN, hlk, hR, hA⟩ := cx
  intro H locs ls hP hD hS hl
  exact lv_ldc hx hb hown (ht _ hw) hd (k H locs ls hP hD hS hl)
theorem g_ldcw (cx : Cx V K nL cc own rm) {i : Nat} {v : Int32} (hw : Cond.constant own i v ∈ lw_good) (hd : decode cc pc = .ok (.ldc_w i, 3)) (k : G V K nL nc ns ws (pc + 3) lv (.int v :: st)) : G V K nL nc ns ws pc lv st := by
  obtain ⟨l, D, cy⟩ := V; obtain ⟨p, e, R, s, m, args, below, meth, c, A, H0, Q⟩ := K
  obtain ⟨hx, hb, hml, hown, ht, hK, hN, hlk, hR, hA⟩ := cx
  intro H locs ls hP hD hS hl
  exact lv_ldcw hx hb hown (ht _ hw) hd (k H locs ls hP hD hS hl)
theorem g_iload_n (cx : Cx V K nL cc own rm) {q : Fin 4} {v : Int32} (hd : decode cc pc = .ok (.iload_n q, 1)) (hv : lv.lookup (q : Nat) = some (.int v)) (k : G V K nL nc ns ws (pc + 1) lv (.int v :: st)) : G V K nL nc ns ws pc lv st := by
  obtain ⟨l, D, cy⟩ := V; obtain ⟨p, e, R, s, m, args, below, meth, c, A, H0, Q⟩ := K
  obtain ⟨hx, hb, hml, hown, ht, hK, hN, hlk, hR, hA⟩ := cx
  intro H locs ls hP hD hS hl
  exact lv_iload_n hx hb hd rfl (g_at hv hl) (k H locs ls hP hD hS hl)
theorem g_iload (cx : Cx V K nL cc own rm) {i : Nat} {v : Int32} (hd : decode cc pc = .ok (.iload i, 2)) (hv : lv.lookup i = some (.int v)) (k : G V K nL nc ns ws (pc + 2) lv (.int v :: st)) : G V K nL nc ns ws pc lv st := by
  obtain ⟨l, D, cy⟩ := V; obtain ⟨p, e, R, s, m, args, below, meth, c, A, H0, Q⟩ := K
  obtain ⟨hx, hb, hml, hown, ht, hK, hN, hlk, hR, hA⟩ := cx
  intro H locs ls hP hD hS hl
  exact lv_iload hx hb hd (g_at hv hl) (k H locs ls hP hD hS hl)
theorem g_aload_n (cx : Cx V K nL cc own rm) {q : Fin 4} {v : Nat} (hd : decode cc pc = .ok (.aload_n q, 1)) (hv : lv.lookup (q : Nat) = some (.ref v)) (k : G V K nL nc ns ws (pc + 1) lv (.ref v :: st)) : G V K nL nc ns ws pc lv st := by
  obtain ⟨l, D, cy⟩ := V; obtain ⟨p, e, R, s, m, args, below, meth, c, A, H0, Q⟩ := K
  obtain ⟨hx, hb, hml, hown, ht, hK, hN, hlk, hR, hA⟩ := cx
  intro H locs ls hP hD hS hl
  exact lv_aload_n hx hb hd rfl (g_at hv hl) (k H locs ls hP hD hS hl)
theorem g_istore_n (cx : Cx V K nL cc own rm) {q : Fin 4} {x : Int32} (hd : decode cc pc = .ok (.istore_n q, 1)) (hn : (q : Nat) < nL) (hv : rf_set lv q (.int x) = lv') (k : G V K nL nc ns ws (pc + 1) lv' st) : G V K nL nc ns ws pc lv (.int x :: st) := by
  obtain ⟨l, D, cy⟩ := V; obtain ⟨p, e, R, s, m, args, below, meth, c, A, H0, Q⟩ := K
  obtain ⟨hx, hb, hml, hown, ht, hK, hN, hlk, hR, hA⟩ := cx
  intro H locs ls hP hD hS hl
  exact lv_istore_n hx hb hd rfl hl hn rfl (fun ls' hl' => k H locs ls' hP hD hS (by rw [← hv]; exact rf_has_set hl'))
theorem g_istore (cx : Cx V K nL cc own rm) {i : Nat} {x : Int32} (hd : decode cc pc = .ok (.istore i, 2)) (hn : i < nL) (hv : rf_set lv i (.int x) = lv') (k : G V K nL nc ns ws (pc + 2) lv' st) : G V K nL nc ns ws pc lv (.int x :: st) := by
  obtain ⟨l, D, cy⟩ := V; obtain ⟨p, e, R, s, m, args, below, meth, c, A, H0, Q⟩ := K
  obtain ⟨hx, hb, hml, hown, ht, hK, hN, hlk, hR, hA⟩ := cx
  intro H locs ls hP hD hS hl
  exact lv_istore hx hb hd hl hn rfl (fun ls' hl' => k H locs ls' hP hD hS (by rw [← hv]; exact rf_has_set hl'))
theorem g_astore_n (cx : Cx V K nL cc own rm) {q : Fin 4} {x : Nat} (hd : decode cc pc = .ok (.astore_n q, 1)) (hn : (q : Nat) < nL) (hv : rf_set lv q (.ref x) = lv') (k : G V K nL nc ns ws (pc + 1) lv' st) : G V K nL nc ns ws pc lv (.ref x :: st) := by
  obtain ⟨l, D, cy⟩ := V; obtain ⟨p, e, R, s, m, args, below, meth, c, A, H0, Q⟩ := K
  obtain ⟨hx, hb, hml, hown, ht, hK, hN, hlk, hR, hA⟩ := cx
  intro H locs ls hP hD hS hl
  exact lv_astore_n hx hb hd rfl hl hn rfl (fun ls' hl' => k H locs ls' hP hD hS (by rw [← hv]; exact rf_has_set hl'))
theorem rf_lookup_pos {i : Nat} {v : Value} : ∀ {l : List (Nat × Value)}, l.lookup i = some v → ∃ k : Nat, l[k]? = some (i, v)
  | [], h => by simp at h
  | (j, w) :: l, h => by
    rw [List.lookup_cons] at h
    by_cases e : i = j
    · subst e
      simp at h
      exact ⟨0, by rw [h]; rfl⟩
    · have e' : (i == j) = false := by simpa using e
      rw [e'] at h
      obtain ⟨k, hk⟩ := rf_lookup_pos h
      exact ⟨k + 1, hk⟩
theorem g_iinc (cx : Cx V K nL cc own rm) {i : Nat} {n : Int} {x v : Int32} (hd : decode cc pc = .ok (.iinc i n, 3)) (hx0 : lv.lookup i = some (.int x)) (hn : i < nL) (he : x + Int32.ofInt n = v) (hv : rf_set lv i (.int v) = lv') (k : G V K nL nc ns ws (pc + 3) lv' st) : G V K nL nc ns ws pc lv st := by
  obtain ⟨l, D, cy⟩ := V; obtain ⟨p, e, R, s, m, args, below, meth, c, A, H0, Q⟩ := K
  obtain ⟨hx, hb, hml, hown, ht, hK, hN, hlk, hR, hA⟩ := cx
  intro H locs ls hP hD hS hl
  obtain ⟨kq, hkq⟩ := rf_lookup_pos hx0
  exact lv_iinc hx hb hd hl hkq he hn rfl (fun ls' hl' => k H locs ls' hP hD hS (by rw [← hv]; exact rf_has_set hl'))
theorem g_iadd (cx : Cx V K nL cc own rm) {x y : Int32} (hd : decode cc pc = .ok (.iadd, 1)) (k : G V K nL nc ns ws (pc + 1) lv (.int (x + y) :: st)) : G V K nL nc ns ws pc lv (.int y :: .int x :: st) := by
  obtain ⟨l, D, cy⟩ := V; obtain ⟨p, e, R, s, m, args, below, meth, c, A, H0, Q⟩ := K
  obtain ⟨hx, hb, hml, hown, ht, hK, hN, hlk, hR, hA⟩ := cx
  intro H locs ls hP hD hS hl
  exact lv_iadd hx hb hd (k H locs ls hP hD hS hl)
theorem g_isub (cx : Cx V K nL cc own rm) {x y : Int32} (hd : decode cc pc = .ok (.isub, 1)) (k : G V K nL nc ns ws (pc + 1) lv (.int (x - y) :: st)) : G V K nL nc ns ws pc lv (.int y :: .int x :: st) := by
  obtain ⟨l, D, cy⟩ := V; obtain ⟨p, e, R, s, m, args, below, meth, c, A, H0, Q⟩ := K
  obtain ⟨hx, hb, hml, hown, ht, hK, hN, hlk, hR, hA⟩ := cx
  intro H locs ls hP hD hS hl
  exact lv_isub hx hb hd (k H locs ls hP hD hS hl)
theorem g_imul (cx : Cx V K nL cc own rm) {x y : Int32} (hd : decode cc pc = .ok (.imul, 1)) (k : G V K nL nc ns ws (pc + 1) lv (.int (x * y) :: st)) : G V K nL nc ns ws pc lv (.int y :: .int x :: st) := by
  obtain ⟨l, D, cy⟩ := V; obtain ⟨p, e, R, s, m, args, below, meth, c, A, H0, Q⟩ := K
  obtain ⟨hx, hb, hml, hown, ht, hK, hN, hlk, hR, hA⟩ := cx
  intro H locs ls hP hD hS hl
  exact lv_imul hx hb hd (k H locs ls hP hD hS hl)
theorem g_iand (cx : Cx V K nL cc own rm) {x y : Int32} (hd : decode cc pc = .ok (.iand, 1)) (k : G V K nL nc ns ws (pc + 1) lv (.int (x &&& y) :: st)) : G V K nL nc ns ws pc lv (.int y :: .int x :: st) := by
  obtain ⟨l, D, cy⟩ := V; obtain ⟨p, e, R, s, m, args, below, meth, c, A, H0, Q⟩ := K
  obtain ⟨hx, hb, hml, hown, ht, hK, hN, hlk, hR, hA⟩ := cx
  intro H locs ls hP hD hS hl
  exact lv_iand hx hb hd (k H locs ls hP hD hS hl)
theorem g_ior (cx : Cx V K nL cc own rm) {x y : Int32} (hd : decode cc pc = .ok (.ior, 1)) (k : G V K nL nc ns ws (pc + 1) lv (.int (x ||| y) :: st)) : G V K nL nc ns ws pc lv (.int y :: .int x :: st) := by
  obtain ⟨l, D, cy⟩ := V; obtain ⟨p, e, R, s, m, args, below, meth, c, A, H0, Q⟩ := K
  obtain ⟨hx, hb, hml, hown, ht, hK, hN, hlk, hR, hA⟩ := cx
  intro H locs ls hP hD hS hl
  exact lv_ior hx hb hd (k H locs ls hP hD hS hl)
theorem g_ixor (cx : Cx V K nL cc own rm) {x y : Int32} (hd : decode cc pc = .ok (.ixor, 1)) (k : G V K nL nc ns ws (pc + 1) lv (.int (x ^^^ y) :: st)) : G V K nL nc ns ws pc lv (.int y :: .int x :: st) := by
  obtain ⟨l, D, cy⟩ := V; obtain ⟨p, e, R, s, m, args, below, meth, c, A, H0, Q⟩ := K
  obtain ⟨hx, hb, hml, hown, ht, hK, hN, hlk, hR, hA⟩ := cx
  intro H locs ls hP hD hS hl
  exact lv_ixor hx hb hd (k H locs ls hP hD hS hl)
theorem g_ishl (cx : Cx V K nL cc own rm) {x y : Int32} (hd : decode cc pc = .ok (.ishl, 1)) (k : G V K nL nc ns ws (pc + 1) lv (.int (x <<< (y &&& 31)) :: st)) : G V K nL nc ns ws pc lv (.int y :: .int x :: st) := by
  obtain ⟨l, D, cy⟩ := V; obtain ⟨p, e, R, s, m, args, below, meth, c, A, H0, Q⟩ := K
  obtain ⟨hx, hb, hml, hown, ht, hK, hN, hlk, hR, hA⟩ := cx
  intro H locs ls hP hD hS hl
  exact lv_ishl hx hb hd (k H locs ls hP hD hS hl)
theorem g_ishr (cx : Cx V K nL cc own rm) {x y : Int32} (hd : decode cc pc = .ok (.ishr, 1)) (k : G V K nL nc ns ws (pc + 1) lv (.int (x >>> (y &&& 31)) :: st)) : G V K nL nc ns ws pc lv (.int y :: .int x :: st) := by
  obtain ⟨l, D, cy⟩ := V; obtain ⟨p, e, R, s, m, args, below, meth, c, A, H0, Q⟩ := K
  obtain ⟨hx, hb, hml, hown, ht, hK, hN, hlk, hR, hA⟩ := cx
  intro H locs ls hP hD hS hl
  exact lv_ishr hx hb hd (k H locs ls hP hD hS hl)
theorem g_irem (cx : Cx V K nL cc own rm) {x y : Int32} (hd : decode cc pc = .ok (.irem, 1)) (hy : ¬ y = 0) (k : G V K nL nc ns ws (pc + 1) lv (.int (x - x / y * y) :: st)) : G V K nL nc ns ws pc lv (.int y :: .int x :: st) := by
  obtain ⟨l, D, cy⟩ := V; obtain ⟨p, e, R, s, m, args, below, meth, c, A, H0, Q⟩ := K
  obtain ⟨hx, hb, hml, hown, ht, hK, hN, hlk, hR, hA⟩ := cx
  intro H locs ls hP hD hS hl
  exact lv_irem hx hb hd hy (k H locs ls hP hD hS hl)
theorem g_iushr (cx : Cx V K nL cc own rm) {x y v : Int32} (hd : decode cc pc = .ok (.iushr, 1)) (hv : (x.toUInt32 >>> (y.toUInt32 &&& Int32.toUInt32 31)).toInt32 = v) (k : G V K nL nc ns ws (pc + 1) lv (.int v :: st)) : G V K nL nc ns ws pc lv (.int y :: .int x :: st) := by
  obtain ⟨l, D, cy⟩ := V; obtain ⟨p, e, R, s, m, args, below, meth, c, A, H0, Q⟩ := K
  obtain ⟨hx, hb, hml, hown, ht, hK, hN, hlk, hR, hA⟩ := cx
  intro H locs ls hP hD hS hl
  exact lv_iushr hx hb hd hv (k H locs ls hP hD hS hl)
theorem g_top {x y : Int32} (e : x = y) (k : G V K nL nc ns ws pc lv (.int y :: st)) : G V K nL nc ns ws pc lv (.int x :: st) := by rw [e]; exact k
theorem g_top2 {x y : Int32} {v : Value} (e : x = y) (k : G V K nL nc ns ws pc lv (v :: .int y :: st)) : G V K nL nc ns ws pc lv (v :: .int x :: st) := by rw [e]; exact k
theorem g_dup (cx : Cx V K nL cc own rm) {v : Value} (hd : decode cc pc = .ok (.dup, 1)) (hc : v.category = 1) (k : G V K nL nc ns ws (pc + 1) lv (v :: v :: st)) : G V K nL nc ns ws pc lv (v :: st) := by
  obtain ⟨l, D, cy⟩ := V; obtain ⟨p, e, R, s, m, args, below, meth, c, A, H0, Q⟩ := K
  obtain ⟨hx, hb, hml, hown, ht, hK, hN, hlk, hR, hA⟩ := cx
  intro H locs ls hP hD hS hl
  exact lv_dup hx hb hd hc (k H locs ls hP hD hS hl)
theorem g_dup2 (cx : Cx V K nL cc own rm) {v w : Value} (hd : decode cc pc = .ok (.dup2, 1)) (hc : v.category = 1) (hc2 : w.category = 1) (k : G V K nL nc ns ws (pc + 1) lv (v :: w :: v :: w :: st)) : G V K nL nc ns ws pc lv (v :: w :: st) := by
  obtain ⟨l, D, cy⟩ := V; obtain ⟨p, e, R, s, m, args, below, meth, c, A, H0, Q⟩ := K
  obtain ⟨hx, hb, hml, hown, ht, hK, hN, hlk, hR, hA⟩ := cx
  intro H locs ls hP hD hS hl
  exact lv_dup2_11 hx hb hd hc hc2 (k H locs ls hP hD hS hl)
theorem g_goto (cx : Cx V K nL cc own rm) {off : Int} (tgt : Nat) (hd : decode cc pc = .ok (.goto off, 3)) (ht0 : (pc : Int) + off = (tgt : Int)) (k : G V K nL nc ns ws tgt lv st) : G V K nL nc ns ws pc lv st := by
  obtain ⟨l, D, cy⟩ := V; obtain ⟨p, e, R, s, m, args, below, meth, c, A, H0, Q⟩ := K
  obtain ⟨hx, hb, hml, hown, ht, hK, hN, hlk, hR, hA⟩ := cx
  intro H locs ls hP hD hS hl
  exact lv_goto hx hb hd ht0 (k H locs ls hP hD hS hl)
theorem g_if_eq (cx : Cx V K nL cc own rm) {x : Int32} {off : Int} (tgt : Nat) (hd : decode cc pc = .ok (.ifCond .eq off, 3)) (ht0 : (pc : Int) + off = (tgt : Int)) (kt : x = 0 → G V K nL nc ns ws tgt lv st) (kf : ¬ x = 0 → G V K nL nc ns ws (pc + 3) lv st) : G V K nL nc ns ws pc lv (.int x :: st) := by
  obtain ⟨l, D, cy⟩ := V; obtain ⟨p, e, R, s, m, args, below, meth, c, A, H0, Q⟩ := K
  obtain ⟨hx, hb, hml, hown, ht, hK, hN, hlk, hR, hA⟩ := cx
  intro H locs ls hP hD hS hl
  exact lv_if_eq hx hb hd ht0 (fun h => kt h H locs ls hP hD hS hl) (fun h => kf h H locs ls hP hD hS hl)
theorem g_icmp_eq (cx : Cx V K nL cc own rm) {x y : Int32} {off : Int} (tgt : Nat) (hd : decode cc pc = .ok (.if_icmp .eq off, 3)) (ht0 : (pc : Int) + off = (tgt : Int)) (kt : x = y → G V K nL nc ns ws tgt lv st) (kf : ¬ x = y → G V K nL nc ns ws (pc + 3) lv st) : G V K nL nc ns ws pc lv (.int y :: .int x :: st) := by
  obtain ⟨l, D, cy⟩ := V; obtain ⟨p, e, R, s, m, args, below, meth, c, A, H0, Q⟩ := K
  obtain ⟨hx, hb, hml, hown, ht, hK, hN, hlk, hR, hA⟩ := cx
  intro H locs ls hP hD hS hl
  exact lv_icmp_eq hx hb hd ht0 (fun h => kt h H locs ls hP hD hS hl) (fun h => kf h H locs ls hP hD hS hl)
theorem g_if_ne (cx : Cx V K nL cc own rm) {x : Int32} {off : Int} (tgt : Nat) (hd : decode cc pc = .ok (.ifCond .ne off, 3)) (ht0 : (pc : Int) + off = (tgt : Int)) (kt : ¬ x = 0 → G V K nL nc ns ws tgt lv st) (kf : x = 0 → G V K nL nc ns ws (pc + 3) lv st) : G V K nL nc ns ws pc lv (.int x :: st) := by
  obtain ⟨l, D, cy⟩ := V; obtain ⟨p, e, R, s, m, args, below, meth, c, A, H0, Q⟩ := K
  obtain ⟨hx, hb, hml, hown, ht, hK, hN, hlk, hR, hA⟩ := cx
  intro H locs ls hP hD hS hl
  exact lv_if_ne hx hb hd ht0 (fun h => kt h H locs ls hP hD hS hl) (fun h => kf h H locs ls hP hD hS hl)
theorem g_icmp_ne (cx : Cx V K nL cc own rm) {x y : Int32} {off : Int} (tgt : Nat) (hd : decode cc pc = .ok (.if_icmp .ne off, 3)) (ht0 : (pc : Int) + off = (tgt : Int)) (kt : ¬ x = y → G V K nL nc ns ws tgt lv st) (kf : x = y → G V K nL nc ns ws (pc + 3) lv st) : G V K nL nc ns ws pc lv (.int y :: .int x :: st) := by
  obtain ⟨l, D, cy⟩ := V; obtain ⟨p, e, R, s, m, args, below, meth, c, A, H0, Q⟩ := K
  obtain ⟨hx, hb, hml, hown, ht, hK, hN, hlk, hR, hA⟩ := cx
  intro H locs ls hP hD hS hl
  exact lv_icmp_ne hx hb hd ht0 (fun h => kt h H locs ls hP hD hS hl) (fun h => kf h H locs ls hP hD hS hl)
theorem g_if_lt (cx : Cx V K nL cc own rm) {x : Int32} {off : Int} (tgt : Nat) (hd : decode cc pc = .ok (.ifCond .lt off, 3)) (ht0 : (pc : Int) + off = (tgt : Int)) (kt : x < 0 → G V K nL nc ns ws tgt lv st) (kf : ¬ x < 0 → G V K nL nc ns ws (pc + 3) lv st) : G V K nL nc ns ws pc lv (.int x :: st) := by
  obtain ⟨l, D, cy⟩ := V; obtain ⟨p, e, R, s, m, args, below, meth, c, A, H0, Q⟩ := K
  obtain ⟨hx, hb, hml, hown, ht, hK, hN, hlk, hR, hA⟩ := cx
  intro H locs ls hP hD hS hl
  exact lv_if_lt hx hb hd ht0 (fun h => kt h H locs ls hP hD hS hl) (fun h => kf h H locs ls hP hD hS hl)
theorem g_icmp_lt (cx : Cx V K nL cc own rm) {x y : Int32} {off : Int} (tgt : Nat) (hd : decode cc pc = .ok (.if_icmp .lt off, 3)) (ht0 : (pc : Int) + off = (tgt : Int)) (kt : x < y → G V K nL nc ns ws tgt lv st) (kf : ¬ x < y → G V K nL nc ns ws (pc + 3) lv st) : G V K nL nc ns ws pc lv (.int y :: .int x :: st) := by
  obtain ⟨l, D, cy⟩ := V; obtain ⟨p, e, R, s, m, args, below, meth, c, A, H0, Q⟩ := K
  obtain ⟨hx, hb, hml, hown, ht, hK, hN, hlk, hR, hA⟩ := cx
  intro H locs ls hP hD hS hl
  exact lv_icmp_lt hx hb hd ht0 (fun h => kt h H locs ls hP hD hS hl) (fun h => kf h H locs ls hP hD hS hl)
theorem g_if_ge (cx : Cx V K nL cc own rm) {x : Int32} {off : Int} (tgt : Nat) (hd : decode cc pc = .ok (.ifCond .ge off, 3)) (ht0 : (pc : Int) + off = (tgt : Int)) (kt : 0 ≤ x → G V K nL nc ns ws tgt lv st) (kf : ¬ 0 ≤ x → G V K nL nc ns ws (pc + 3) lv st) : G V K nL nc ns ws pc lv (.int x :: st) := by
  obtain ⟨l, D, cy⟩ := V; obtain ⟨p, e, R, s, m, args, below, meth, c, A, H0, Q⟩ := K
  obtain ⟨hx, hb, hml, hown, ht, hK, hN, hlk, hR, hA⟩ := cx
  intro H locs ls hP hD hS hl
  exact lv_if_ge hx hb hd ht0 (fun h => kt h H locs ls hP hD hS hl) (fun h => kf h H locs ls hP hD hS hl)
theorem g_icmp_ge (cx : Cx V K nL cc own rm) {x y : Int32} {off : Int} (tgt : Nat) (hd : decode cc pc = .ok (.if_icmp .ge off, 3)) (ht0 : (pc : Int) + off = (tgt : Int)) (kt : y ≤ x → G V K nL nc ns ws tgt lv st) (kf : ¬ y ≤ x → G V K nL nc ns ws (pc + 3) lv st) : G V K nL nc ns ws pc lv (.int y :: .int x :: st) := by
  obtain ⟨l, D, cy⟩ := V; obtain ⟨p, e, R, s, m, args, below, meth, c, A, H0, Q⟩ := K
  obtain ⟨hx, hb, hml, hown, ht, hK, hN, hlk, hR, hA⟩ := cx
  intro H locs ls hP hD hS hl
  exact lv_icmp_ge hx hb hd ht0 (fun h => kt h H locs ls hP hD hS hl) (fun h => kf h H locs ls hP hD hS hl)
theorem g_if_gt (cx : Cx V K nL cc own rm) {x : Int32} {off : Int} (tgt : Nat) (hd : decode cc pc = .ok (.ifCond .gt off, 3)) (ht0 : (pc : Int) + off = (tgt : Int)) (kt : 0 < x → G V K nL nc ns ws tgt lv st) (kf : ¬ 0 < x → G V K nL nc ns ws (pc + 3) lv st) : G V K nL nc ns ws pc lv (.int x :: st) := by
  obtain ⟨l, D, cy⟩ := V; obtain ⟨p, e, R, s, m, args, below, meth, c, A, H0, Q⟩ := K
  obtain ⟨hx, hb, hml, hown, ht, hK, hN, hlk, hR, hA⟩ := cx
  intro H locs ls hP hD hS hl
  exact lv_if_gt hx hb hd ht0 (fun h => kt h H locs ls hP hD hS hl) (fun h => kf h H locs ls hP hD hS hl)
theorem g_icmp_gt (cx : Cx V K nL cc own rm) {x y : Int32} {off : Int} (tgt : Nat) (hd : decode cc pc = .ok (.if_icmp .gt off, 3)) (ht0 : (pc : Int) + off = (tgt : Int)) (kt : y < x → G V K nL nc ns ws tgt lv st) (kf : ¬ y < x → G V K nL nc ns ws (pc + 3) lv st) : G V K nL nc ns ws pc lv (.int y :: .int x :: st) := by
  obtain ⟨l, D, cy⟩ := V; obtain ⟨p, e, R, s, m, args, below, meth, c, A, H0, Q⟩ := K
  obtain ⟨hx, hb, hml, hown, ht, hK, hN, hlk, hR, hA⟩ := cx
  intro H locs ls hP hD hS hl
  exact lv_icmp_gt hx hb hd ht0 (fun h => kt h H locs ls hP hD hS hl) (fun h => kf h H locs ls hP hD hS hl)
theorem g_if_le (cx : Cx V K nL cc own rm) {x : Int32} {off : Int} (tgt : Nat) (hd : decode cc pc = .ok (.ifCond .le off, 3)) (ht0 : (pc : Int) + off = (tgt : Int)) (kt : x ≤ 0 → G V K nL nc ns ws tgt lv st) (kf : ¬ x ≤ 0 → G V K nL nc ns ws (pc + 3) lv st) : G V K nL nc ns ws pc lv (.int x :: st) := by
  obtain ⟨l, D, cy⟩ := V; obtain ⟨p, e, R, s, m, args, below, meth, c, A, H0, Q⟩ := K
  obtain ⟨hx, hb, hml, hown, ht, hK, hN, hlk, hR, hA⟩ := cx
  intro H locs ls hP hD hS hl
  exact lv_if_le hx hb hd ht0 (fun h => kt h H locs ls hP hD hS hl) (fun h => kf h H locs ls hP hD hS hl)
theorem g_icmp_le (cx : Cx V K nL cc own rm) {x y : Int32} {off : Int} (tgt : Nat) (hd : decode cc pc = .ok (.if_icmp .le off, 3)) (ht0 : (pc : Int) + off = (tgt : Int)) (kt : x ≤ y → G V K nL nc ns ws tgt lv st) (kf : ¬ x ≤ y → G V K nL nc ns ws (pc + 3) lv st) : G V K nL nc ns ws pc lv (.int y :: .int x :: st) := by
  obtain ⟨l, D, cy⟩ := V; obtain ⟨p, e, R, s, m, args, below, meth, c, A, H0, Q⟩ := K
  obtain ⟨hx, hb, hml, hown, ht, hK, hN, hlk, hR, hA⟩ := cx
  intro H locs ls hP hD hS hl
  exact lv_icmp_le hx hb hd ht0 (fun h => kt h H locs ls hP hD hS hl) (fun h => kf h H locs ls hP hD hS hl)
theorem g_tableOut (cx : Cx V K nL cc own rm) {dflt lo hi : Int} {offs : Array Int} {len : Nat} {x : Int32} (tgt : Nat) (hd : decode cc pc = .ok (.tableswitch dflt lo hi offs, len)) (h : x.toInt < lo ∨ hi < x.toInt) (ht0 : (pc : Int) + dflt = (tgt : Int)) (k : G V K nL nc ns ws tgt lv st) : G V K nL nc ns ws pc lv (.int x :: st) := by
  obtain ⟨l, D, cy⟩ := V; obtain ⟨p, e, R, s, m, args, below, meth, c, A, H0, Q⟩ := K
  obtain ⟨hx, hb, hml, hown, ht, hK, hN, hlk, hR, hA⟩ := cx
  intro H locs ls hP hD hS hl
  exact lv_tableOut hx hb hd h ht0 (k H locs ls hP hD hS hl)
theorem g_tableIn (cx : Cx V K nL cc own rm) {dflt lo hi : Int} {offs : Array Int} {len : Nat} {x : Int32} {off : Int} (tgt : Nat) (hd : decode cc pc = .ok (.tableswitch dflt lo hi offs, len)) (h1 : ¬ x.toInt < lo) (h2 : ¬ hi < x.toInt) (ho : offs[(x.toInt - lo).toNat]? = some off) (ht0 : (pc : Int) + off = (tgt : Int)) (k : G V K nL nc ns ws tgt lv st) : G V K nL nc ns ws pc lv (.int x :: st) := by
  obtain ⟨l, D, cy⟩ := V; obtain ⟨p, e, R, s, m, args, below, meth, c, A, H0, Q⟩ := K
  obtain ⟨hx, hb, hml, hown, ht, hK, hN, hlk, hR, hA⟩ := cx
  intro H locs ls hP hD hS hl
  exact lv_tableIn hx hb hd h1 h2 ho ht0 (k H locs ls hP hD hS hl)
theorem g_lookup (cx : Cx V K nL cc own rm) {dflt : Int} {ps : Array (Int × Int)} {len : Nat} {x : Int32} {off : Int} (tgt : Nat) (hd : decode cc pc = .ok (.lookupswitch dflt ps, len)) (hp : (ps.toList.zip (ps.toList.drop 1)).all (fun (a, next) => a.1 < next.1) = true) (ho : Op.lookupswitch.offset ps.toList dflt x.toInt = off) (ht0 : (pc : Int) + off = (tgt : Int)) (k : G V K nL nc ns ws tgt lv st) : G V K nL nc ns ws pc lv (.int x :: st) := by
  obtain ⟨l, D, cy⟩ := V; obtain ⟨p, e, R, s, m, args, below, meth, c, A, H0, Q⟩ := K
  obtain ⟨hx, hb, hml, hown, ht, hK, hN, hlk, hR, hA⟩ := cx
  intro H locs ls hP hD hS hl
  exact lv_lookup hx hb hd hp ho ht0 (k H locs ls hP hD hS hl)
/-- a field: of class ci of vwCl, its place k, final or not, its type; how 'own' names it by its entry idx -/
def FLk (own : String) (idx ci k : Nat) (fin : Bool) (ty : FieldType) : Prop :=
  ∃ (C : String) (T : u_T) (N : Nat) (ty0 : Nat → FieldType), vwCl[ci]? = some (C, T, N) ∧ k < N ∧ (∀ w ∈ u_ws C T N, w ∈ lw_good) ∧ (∀ k, k < N → parseFieldDescriptor (T k).2.2.1 = some (ty0 k)) ∧ (∀ a, a < N → ∀ b, b < N → a ≠ b → (T a).2.1 ≠ (T b).2.1) ∧ (T k).1 = C ∧ (T k).2.2.2 = fin ∧ parseFieldDescriptor (T k).2.2.1 = some ty ∧ (Cond.fieldLink own idx C (T k).2.1 (T k).2.2.1 ∈ lw_good ∨ ∃ host, Cond.fieldLinkNest own idx C (T k).2.1 (T k).2.2.1 host ∈ lw_nst)
theorem g_get (cx : Cx V K nL cc own rm) {idx ci k a : Nat} {fin : Bool} {ty : FieldType} {fs : List Value} {v : Value} (hf : FLk own idx ci k fin ty) (hd : decode cc pc = .ok (.getfield idx, 3)) (q0 : Nat) (hq : ws[q0]? = some (a, .inr (ci, fs))) (hv : fs[k]? = some v) (kk : G V K nL nc ns ws (pc + 3) lv (v :: st)) : G V K nL nc ns ws pc lv (.ref a :: st) := by
  obtain ⟨l, D, cy⟩ := V; obtain ⟨p, e, R, s, m, args, below, meth, c, A, H0, Q⟩ := K
  obtain ⟨hx, hb, hml, hown, ht, hK, hN, hlk, hR, hA⟩ := cx
  intro H locs ls hP hD hS hl
  obtain ⟨C, T, N, ty0, f1, f2, f3, f4, f5, f6, f7, f8, f9⟩ := hf
  have hs : ∀ x, s.fieldFound? (T k).1 (T k).2.1 (T k).2.2.1 = some x → s.fieldFound? C (T k).2.1 (T k).2.2.1 = some x := fun x h => by rw [f6] at h; exact h
  rcases f9 with f9 | ⟨host, f9⟩
  · exact va_get hx hb ht f3 hown hK hP q0 hq f1 k f2 (ht _ f9) hs hv hd (kk H locs ls hP hD hS hl)
  · exact va_getN hx hb ht f3 hown hK hP q0 hq f1 k f2 (va_Nw.use rfl (hN.1 _ f9)) hs hv hd (kk H locs ls hP hD hS hl)
theorem g_put (cx : Cx V K nL cc own rm) {idx ci k a : Nat} {ty : FieldType} {fs : List Value} {v : Value} (hf : FLk own idx ci k false ty) (hd : decode cc pc = .ok (.putfield idx, 3)) (q0 : Nat) (hq : ws[q0]? = some (a, .inr (ci, fs))) (hn : narrow ty v = v) (hfit : fits ty v = true) (hlen : k < fs.length) (hw : ws.set q0 (a, .inr (ci, fs.set k v)) = ws') (kk : G V K nL nc ns ws' (pc + 3) lv st) : G V K nL nc ns ws pc lv (v :: .ref a :: st) := by
  obtain ⟨l, D, cy⟩ := V; obtain ⟨p, e, R, s, m, args, below, meth, c, A, H0, Q⟩ := K
  obtain ⟨hx, hb, hml, hown, ht, hK, hN, hlk, hR, hA⟩ := cx
  intro H locs ls hP hD hS hl
  subst hw
  obtain ⟨C, T, N, ty0, f1, f2, f3, f4, f5, f6, f7, f8, f9⟩ := hf
  have hs : ∀ x, s.fieldFound? (T k).1 (T k).2.1 (T k).2.2.1 = some x → s.fieldFound? C (T k).2.1 (T k).2.2.1 = some x := fun x h => by rw [f6] at h; exact h
  rcases f9 with f9 | ⟨host, f9⟩
  · exact va_put hx hb ht f3 ty0 f4 f5 hown hK hP hD hS q0 hq f1 k f2 (ht _ f9) hs f7 f8 hn hfit hlen hd (fun H1 locs1 p1 d1 s1 => kk H1 locs1 ls p1 d1 s1 hl)
  · exact va_putN hx hb ht f3 ty0 f4 f5 hown hK hP hD hS q0 hq f1 k f2 (va_Nw.use rfl (hN.1 _ f9)) hs f7 f8 hn hfit hlen hd (fun H1 locs1 p1 d1 s1 => kk H1 locs1 ls p1 d1 s1 hl)
theorem g_putF (cx : Cx V K nL cc own rm) {idx ci k a : Nat} {ty : FieldType} {fs : List Value} {v : Value} {T : u_T} {N : Nat} (hci : CxI K) (hf : FLk own idx ci k true ty) (hcl : vwCl[ci]? = some (own, T, N)) (hlk0 : Cond.fieldLink own idx own (T k).2.1 (T k).2.2.1 ∈ lw_good) (hd : decode cc pc = .ok (.putfield idx, 3)) (q0 : Nat) (hq : ws[q0]? = some (a, .inr (ci, fs))) (hn : narrow ty v = v) (hfit : fits ty v = true) (hlen : k < fs.length) (hw : ws.set q0 (a, .inr (ci, fs.set k v)) = ws') (kk : G V K nL nc ns ws' (pc + 3) lv st) : G V K nL nc ns ws pc lv (v :: .ref a :: st) := by
  obtain ⟨l, D, cy⟩ := V; obtain ⟨p, e, R, s, m, args, below, meth, c, A, H0, Q⟩ := K
  obtain ⟨hx, hb, hml, hown, ht, hK, hN, hlk, hR, hA⟩ := cx
  intro H locs ls hP hD hS hl
  subst hw
  obtain ⟨C, T', N', ty0, f1, f2, f3, f4, f5, f6, f7, f8, f9⟩ := hf
  have e := Option.some.inj (f1.symm.trans hcl)
  simp only [Prod.mk.injEq] at e
  obtain ⟨e1, e2, e3⟩ := e
  subst e1; subst e2; subst e3
  have hs : ∀ x, s.fieldFound? (T' k).1 (T' k).2.1 (T' k).2.2.1 = some x → s.fieldFound? C (T' k).2.1 (T' k).2.2.1 = some x := fun x h => by rw [f6] at h; exact h
  exact va_putF hx hb ht f3 ty0 f4 f5 hown hK hP hD hS q0 hq f1 k f2 (ht _ hlk0) hs f7 hci f6 f8 hn hfit hlen hd (fun H1 locs1 p1 d1 s1 => kk H1 locs1 ls p1 d1 s1 hl)
theorem g_iald (cx : Cx V K nL cc own rm) {a n : Nat} {f : Nat → Int32} {i : Int32} (hd : decode cc pc = .ok (.iaload, 1)) (q0 j : Nat) (hq : ws[q0]? = some (a, .inl (V.2.2 0, n, .inl f))) (hi : i = nI j) (hj : j < n) (hn : n < 2 ^ 31) (kk : G V K nL nc ns ws (pc + 1) lv (.int (f j) :: st)) : G V K nL nc ns ws pc lv (.int i :: .ref a :: st) := by
  obtain ⟨l, D, cy⟩ := V; obtain ⟨p, e, R, s, m, args, below, meth, c, A, H0, Q⟩ := K
  obtain ⟨hx, hb, hml, hown, ht, hK, hN, hlk, hR, hA⟩ := cx
  intro H locs ls hP hD hS hl
  subst hi
  refine va_iald hx hb hK hP q0 0 hq rfl (vp_in_nI hj hn) hd ?_
  rw [nI_clamp (Nat.lt_trans hj hn)]
  exact kk H locs ls hP hD hS hl
theorem g_iast (cx : Cx V K nL cc own rm) {a n : Nat} {f : Nat → Int32} {i x : Int32} (hd : decode cc pc = .ok (.iastore, 1)) (q0 j : Nat) (hq : ws[q0]? = some (a, .inl (V.2.2 0, n, .inl f))) (hi : i = nI j) (hj : j < n) (hn : n < 2 ^ 31) (hw : ws.set q0 (a, .inl (V.2.2 0, n, .inl (upd f j x))) = ws') (kk : G V K nL nc ns ws' (pc + 1) lv st) : G V K nL nc ns ws pc lv (.int x :: .int i :: .ref a :: st) := by
  obtain ⟨l, D, cy⟩ := V; obtain ⟨p, e, R, s, m, args, below, meth, c, A, H0, Q⟩ := K
  obtain ⟨hx, hb, hml, hown, ht, hK, hN, hlk, hR, hA⟩ := cx
  intro H locs ls hP hD hS hl
  subst hi
  refine va_iast hx hb hK hP hD hS q0 0 hq rfl (vp_in_nI hj hn) hd (fun H1 locs1 p1 d1 s1 => ?_)
  rw [nI_clamp (Nat.lt_trans hj hn), hw] at p1 d1
  exact kk H1 locs1 ls p1 d1 s1 hl
theorem g_zald (cx : Cx V K nL cc own rm) {a n : Nat} {f : Nat → Int32} {i : Int32} (hd : decode cc pc = .ok (.baload, 1)) (q0 j : Nat) (hq : ws[q0]? = some (a, .inl (V.2.2 1, n, .inl f))) (hi : i = nI j) (hj : j < n) (hn : n < 2 ^ 31) (kk : G V K nL nc ns ws (pc + 1) lv (.int (f j) :: st)) : G V K nL nc ns ws pc lv (.int i :: .ref a :: st) := by
  obtain ⟨l, D, cy⟩ := V; obtain ⟨p, e, R, s, m, args, below, meth, c, A, H0, Q⟩ := K
  obtain ⟨hx, hb, hml, hown, ht, hK, hN, hlk, hR, hA⟩ := cx
  intro H locs ls hP hD hS hl
  subst hi
  refine va_zald hx hb hK hP q0 1 hq rfl (vp_in_nI hj hn) hd ?_
  rw [nI_clamp (Nat.lt_trans hj hn)]
  exact kk H locs ls hP hD hS hl
theorem g_zast (cx : Cx V K nL cc own rm) {a n : Nat} {f : Nat → Int32} {i x : Int32} (hd : decode cc pc = .ok (.bastore, 1)) (q0 j : Nat) (hq : ws[q0]? = some (a, .inl (V.2.2 1, n, .inl f))) (hi : i = nI j) (hj : j < n) (hn : n < 2 ^ 31) (hx1 : vp_nar .boolean x = x) (hw : ws.set q0 (a, .inl (V.2.2 1, n, .inl (upd f j x))) = ws') (kk : G V K nL nc ns ws' (pc + 1) lv st) : G V K nL nc ns ws pc lv (.int x :: .int i :: .ref a :: st) := by
  obtain ⟨l, D, cy⟩ := V; obtain ⟨p, e, R, s, m, args, below, meth, c, A, H0, Q⟩ := K
  obtain ⟨hx, hb, hml, hown, ht, hK, hN, hlk, hR, hA⟩ := cx
  intro H locs ls hP hD hS hl
  subst hi
  refine va_zast hx hb hK hP hD hS q0 1 hq rfl (vp_in_nI hj hn) hd (fun H1 locs1 p1 d1 s1 => ?_)
  rw [nI_clamp (Nat.lt_trans hj hn), hx1, hw] at p1 d1
  exact kk H1 locs1 ls p1 d1 s1 hl
theorem g_aald (cx : Cx V K nL cc own rm) {a n : Nat} {f : Nat → Option Nat} {i : Int32} {b : Nat} (hd : decode cc pc = .ok (.aaload, 1)) (q0 j : Nat) (hq : ws[q0]? = some (a, .inl (V.2.2 2, n, .inr (.inr (.inr (.inr f)))))) (hi : i = nI j) (hj : j < n) (hn : n < 2 ^ 31) (hv : f j = some b) (kk : G V K nL nc ns ws (pc + 1) lv (.ref b :: st)) : G V K nL nc ns ws pc lv (.int i :: .ref a :: st) := by
  obtain ⟨l, D, cy⟩ := V; obtain ⟨p, e, R, s, m, args, below, meth, c, A, H0, Q⟩ := K
  obtain ⟨hx, hb, hml, hown, ht, hK, hN, hlk, hR, hA⟩ := cx
  intro H locs ls hP hD hS hl
  subst hi
  refine va_aldq hx hb hK hP q0 2 hq rfl (vp_in_nI hj hn) hd ?_
  rw [nI_clamp (Nat.lt_trans hj hn), hv]
  exact kk H locs ls hP hD hS hl
theorem g_alen (cx : Cx V K nL cc own rm) {a ty : Nat} {x : vp_A} {v : Int32} (hd : decode cc pc = .ok (.arraylength, 1)) (q0 : Nat) (hq : ws[q0]? = some (a, .inl (V.2.2 0, x))) (hv : Int32.ofNat x.1 = v) (kk : G V K nL nc ns ws (pc + 1) lv (.int v :: st)) : G V K nL nc ns ws pc lv (.ref a :: st) := by
  obtain ⟨l, D, cy⟩ := V; obtain ⟨p, e, R, s, m, args, below, meth, c, A, H0, Q⟩ := K
  obtain ⟨hx, hb, hml, hown, ht, hK, hN, hlk, hR, hA⟩ := cx
  intro H locs ls hP hD hS hl
  exact va_alen hx hb hK hP q0 0 hq (ty := .int) rfl hv hd (kk H locs ls hP hD hS hl)
end RFG
