
/-! THE Z LAYER. G: a partial picture of the heap, address to cell. Z .. G L st pc: from every state at pc whose heap holds G, whose locals hold L and whose stack is st, the goal Q is reached. -/
abbrev zD : Type := va_G × (Nat → ClassId) × Nat
abbrev zG : Type := Nat → Option va_E
/-- one cell more, or changed -/
def zu (G : zG) (a : Nat) (v : va_E) : zG := fun q => if q = a then some v else G q
theorem zu_s {G : zG} {a : Nat} {v : va_E} : zu G a v a = some v := if_pos rfl
theorem zu_n {G : zG} {a b : Nat} {v : va_E} (h : b ≠ a) : zu G a v b = G b := if_neg h
/-- arrays: of ints, doubles, bytes, references (Object[]) -/
abbrev zI (d : zD) (n : Nat) (f : Nat → Int32) : va_E := .inl (d.2.1 0, n, .inl f)
abbrev zDb (d : zD) (n : Nat) (f : Nat → UInt64) : va_E := .inl (d.2.1 1, n, .inr (.inr (.inr (.inl f))))
abbrev zBy (d : zD) (n : Nat) (f : Nat → Int32) : va_E := .inl (d.2.1 2, n, .inl f)
abbrev zO (d : zD) (n : Nat) (f : Nat → Option Nat) : va_E := .inl (d.2.1 3, n, .inr (.inr (.inr (.inr f))))
abbrev zob (ci : Nat) (fs : List Value) : va_E := .inr (ci, fs)
abbrev zTys (d : zD) : List (ClassId × FieldType) := [(d.2.1 0, .int), (d.2.1 1, .double), (d.2.1 2, .byte), (d.2.1 3, .object "java/lang/Object")]
/-- the start g0 of the law: the tables' words, the classes, the shared empty array at de, what exceptions want, the texts -/
def zS0 (d : zD) (a0 : Array Value) (g0 : State) : Prop :=
  (∀ w ∈ lw_tbl, w.before a0 g0 = true) ∧ va_K d.1 zCls (zTys d) g0 ∧
  va_Z "java/util/ArrayList" "DEFAULTCAPACITY_EMPTY_ELEMENTDATA" "[Ljava/lang/Object;" (.ref d.2.2) (fun q => g0.heap.size ≤ q) g0 g0.heap ∧
  va_T (.object "java/lang/Object") d.2.2 0 (fun _ => .null) (fun q => g0.heap.size ≤ q) g0 g0.heap ∧
  vx_Zq Bundle.tN "UNASSIGNED_STACK" Bundle.steD (fun q => g0.heap.size ≤ q) g0 g0.heap ∧ vx_Zq Bundle.tN "SUPPRESSED_SENTINEL" Bundle.listD (fun q => g0.heap.size ≤ q) g0 g0.heap ∧
  (∀ own k tx, Cond.stringRef own k tx ∈ lw_tbl → ∃ sa, vk_R own k tx sa g0) ∧
  va_Z "java/lang/String" "COMPACT_STRINGS" "Z" (.int 1) (fun q => g0.heap.size ≤ q) g0 g0.heap ∧ ∃ mi, va_Mi "[Ljava/lang/Object;" mi g0
def zPic (g0 : State) (d : zD) (G : zG) (H : Heap) : Prop := ∀ a v, G a = some v → g0.heap.size ≤ a ∧ va_at d.1 zCls (a, v) H
/-- the old part of the heap is as it was -/
def zOld (g0 : State) (H : Heap) : Prop := g0.heap.size ≤ H.size ∧ ∀ q, q < g0.heap.size → H[q]? = g0.heap[q]?
def zB (g0 : State) (d : zD) (G : zG) (U : State) : Prop := g0.WarmedH U.vm ∧ zOld g0 U.heap ∧ zPic g0 d G U.heap
def zCx (g0 : State) (d : zD) (y : MethodName) (cc : ByteArray) (nL : Nat) (ret : Option FieldType) (tb : List ExceptionTableEntry) (p : Program) (l : Launch) (s : State) (m : MethodId) (meth : Method) (c : Code) : Prop :=
  (∃ a0, zS0 d a0 g0) ∧ l.stackTraces = false ∧ p.tables.exec = Jvm.exec ∧ c.code = cc ∧ c.maxLocals = nL ∧ s.vm.findClass y.cls = some m.cls ∧ g0.WarmedH s.vm ∧ zOld g0 s.heap ∧ meth.locks = false ∧ meth.sig.returnType = ret ∧ meth.name = y.name ∧ c.exceptionTable.toList = tb
abbrev zA (g0 : State) : Nat → Prop := fun q => g0.heap.size ≤ q
def Z (g0 : State) (d : zD) (y : MethodName) (cc : ByteArray) (nL : Nat) (ret : Option FieldType) (tb : List ExceptionTableEntry) (p : Program) (l : Launch) (e : Env) (R : Room) (s : State) (m : MethodId) (args : Array Value) (below : List Frame) (meth : Method) (c : Code) (Q : State → Prop) (cells slots : Nat) (G : zG) (L : List (Nat × Value)) (st : List Value) (pc : Nat) : Prop :=
  zCx g0 d y cc nL ret tb p l s m meth c → ∀ (H : Heap) (locs : List Loc) (ls : Array Slot), zPic g0 d G H → va_S (zA g0) s.heap H locs → lv_has ls nL L → W p l e R s m args below meth c H locs cells slots Q (F0 m pc ls st)
/-- .. with an exception of the class E thrown over the frame -/
def ZX (g0 : State) (d : zD) (y : MethodName) (cc : ByteArray) (nL : Nat) (ret : Option FieldType) (tb : List ExceptionTableEntry) (p : Program) (l : Launch) (e : Env) (R : Room) (s : State) (m : MethodId) (args : Array Value) (below : List Frame) (meth : Method) (c : Code) (Q : State → Prop) (cells slots : Nat) (G : zG) (L : List (Nat × Value)) (rest : List Value) (pc : Nat) (E : String) : Prop :=
  zCx g0 d y cc nL ret tb p l s m meth c → ∀ (H : Heap) (locs : List Loc) (ls : Array Slot) (q : Addr) (ce : Cell), zPic g0 d G H → va_S (zA g0) s.heap H locs → lv_has ls nL L → H[q]? = some ce → ce.vm = .none → s.vm.findClass E = some ce.cls → vx_W p l e R s m args below meth c H locs cells slots Q (F0 m pc ls rest) q
def zQc (g0 : State) (d : zD) (post : Option Value → zG → Prop) : Array Value → State → Outcome → State → Prop := fun _ st oc t => (∃ (r : Option Value) (G : zG), oc = .returned r ∧ post r G ∧ zPic g0 d G t.heap) ∧ va_F (zA g0) st t
def zXc (g0 : State) (d : zD) (px : String → zG → Prop) : String → State → State → Prop := fun E st t => (∃ G : zG, px E G ∧ zPic g0 d G t.heap) ∧ va_F (zA g0) st t
def zR (f mc ms : Nat) : Room := { frames := f, cells := mc, slots := ms, locals := 64 * f }
abbrev zNo : String → zG → Prop := fun _ _ => False
/-- a method's contract: called with av over a heap that holds G it returns (post) or throws (px) -/
def zMet (g0 : State) (d : zD) (l : Launch) (y : MethodName) (cc : ByteArray) (nL : Nat) (ret : Option FieldType) (f mc ms : Nat) (av : List Value) (G : zG) (post : Option Value → zG → Prop) (px : String → zG → Prop) : Prop :=
  vx_Met l y [Cond.code y cc nL ret] (zR f mc ms) (va_Pc av (zB g0 d G)) (zQc g0 d post) (zXc g0 d px) mc ms (zA g0)
def zY (y : MethodName) (cc : ByteArray) (nL : Nat) (ret : Option FieldType) (n : Nat) : Prop := Cond.code y cc nL ret ∈ lw_tbl ∧ Cond.initialized y.cls ∈ lw_tbl ∧ (y.cls ≠ "java/lang/invoke/MethodHandle" ∧ y.cls ≠ "java/lang/invoke/VarHandle") ∧ (parseMethodDescriptor y.desc).map (fun d => d.parameters.length) = some n
theorem z_ind {α : Type} (μ : α → Nat) (P : α → Prop) (h : ∀ a, (∀ b, μ b < μ a → P b) → P a) : ∀ a, P a := by
  have key : ∀ n a, μ a < n → P a := by
    intro n
    induction n with
    | zero => intro a h0; exact absurd h0 (Nat.not_lt_zero _)
    | succ n ih => intro a h0; exact h a (fun b hb => ih b (Nat.lt_of_lt_of_le hb (Nat.le_of_lt_succ h0)))
  exact fun a => key (μ a + 1) a (Nat.lt_succ_self _)
theorem zOld.s {g0 s : State} {H : Heap} {locs : List Loc} (h0 : zOld g0 s.heap) (hS : va_S (zA g0) s.heap H locs) : zOld g0 H :=
  ⟨Nat.le_trans h0.1 hS.1, fun q hq => (hS.2.1 q (Nat.lt_of_lt_of_le hq h0.1) (Nat.not_le.mpr hq)).trans (h0.2 q hq)⟩
/-- the cells of G as a list, for the kit's rows -/
def zl (g0 : State) (G : zG) (n : Nat) : va_W := (List.range n).filterMap (fun q => if g0.heap.size ≤ q then (G q).map (fun v => (q, v)) else none)
theorem zl_mem {g0 : State} {G : zG} {n : Nat} {q : Nat × va_E} : q ∈ zl g0 G n ↔ q.1 < n ∧ g0.heap.size ≤ q.1 ∧ G q.1 = some q.2 := by
  unfold zl
  rw [List.mem_filterMap]
  constructor
  · rintro ⟨a, h1, h2⟩
    split at h2
    · rename_i h3
      cases hG : G a with
      | none => rw [hG] at h2; cases h2
      | some v =>
        rw [hG] at h2
        cases h2
        exact ⟨List.mem_range.mp h1, h3, hG⟩
    · cases h2
  · rintro ⟨h1, h2, h3⟩
    refine ⟨q.1, List.mem_range.mpr h1, ?_⟩
    rw [if_pos h2, h3]
    rfl
theorem zl_apart {g0 : State} {G : zG} {n : Nat} : ∀ (i j : Nat) (p q : Nat × va_E), (zl g0 G n)[i]? = some p → (zl g0 G n)[j]? = some q → p.1 = q.1 → i = j := by
  have hp : (zl g0 G n).Pairwise (fun a b => a.1 < b.1) := by
    unfold zl
    rw [List.pairwise_filterMap]
    refine List.Pairwise.imp ?_ (List.pairwise_lt_range (n := n))
    intro a b hab p hp q hq
    have key : ∀ {a : Nat} {p : Nat × va_E}, (if g0.heap.size ≤ a then (G a).map (fun v => (a, v)) else none) = some p → p.1 = a := by
      intro a p h
      split at h
      · cases hG : G a with
        | none => rw [hG] at h; cases h
        | some v => rw [hG] at h; cases h; rfl
      · cases h
    rw [key hp, key hq]
    exact hab
  intro i j p q hi hj hpq
  obtain ⟨hi1, hi2⟩ := List.getElem?_eq_some_iff.mp hi
  obtain ⟨hj1, hj2⟩ := List.getElem?_eq_some_iff.mp hj
  rcases Nat.lt_trichotomy i j with h | h | h
  · have := List.pairwise_iff_getElem.mp hp i j hi1 hj1 h
    rw [hi2, hj2, hpq] at this
    exact absurd this (Nat.lt_irrefl _)
  · exact h
  · have := List.pairwise_iff_getElem.mp hp j i hj1 hi1 h
    rw [hi2, hj2, hpq] at this
    exact absurd this (Nat.lt_irrefl _)
section ZPIC
variable {g0 : State} {d : zD} {G : zG} {H H1 : Heap}
theorem zPic.lt (h : zPic g0 d G H) {a : Nat} {v : va_E} (ha : G a = some v) : a < H.size := (h a v ha).2.lt
theorem zPic.P (h : zPic g0 d G H) : va_P d.1 zCls (zl g0 G H.size) H := fun k q hk => (h q.1 q.2 (zl_mem.mp (List.mem_of_getElem? hk)).2.2).2
theorem zPic.D (h : zPic g0 d G H) : va_D (zA g0) (zl g0 G H.size) := ⟨zl_apart, fun k q hk => (zl_mem.mp (List.mem_of_getElem? hk)).2.1⟩
theorem zPic.in (h : zPic g0 d G H) {a : Nat} {v : va_E} (ha : G a = some v) : ∃ k : Nat, (zl g0 G H.size)[k]? = some (a, v) :=
  List.getElem?_of_mem (zl_mem.mpr ⟨h.lt ha, (h a v ha).1, ha⟩)
theorem zPic.set (h : zPic g0 d G H) {a k : Nat} {v v' : va_E} (hk : (zl g0 G H.size)[k]? = some (a, v)) (h1 : va_P d.1 zCls ((zl g0 G H.size).set k (a, v')) H1) : zPic g0 d (zu G a v') H1 := by
  have hl := (List.getElem?_eq_some_iff.mp hk).1
  intro q w hq
  by_cases hqa : q = a
  · subst hqa
    rw [zu_s] at hq
    cases hq
    exact ⟨(zl_mem.mp (List.mem_of_getElem? hk)).2.1, h1 k (q, v') (List.getElem?_set_self hl)⟩
  · rw [zu_n hqa] at hq
    obtain ⟨j, hj⟩ := h.in hq
    have hjk : k ≠ j := fun e => hqa (by rw [e, hj] at hk; cases hk; rfl)
    exact ⟨(h q w hq).1, h1 j (q, w) (by rw [List.getElem?_set_ne hjk]; exact hj)⟩
theorem zPic.push (h : zPic g0 d G H) {a : Nat} {v : va_E} (hA : g0.heap.size ≤ a) (h1 : va_P d.1 zCls (zl g0 G H.size ++ [(a, v)]) H1) (hn : ∀ q, q < H.size → q ≠ a) : zPic g0 d (zu G a v) H1 := by
  intro q w hq
  by_cases hqa : q = a
  · subst hqa
    rw [zu_s] at hq
    cases hq
    exact ⟨hA, h1 (zl g0 G H.size).length (q, v) (by simp)⟩
  · rw [zu_n hqa] at hq
    obtain ⟨j, hj⟩ := h.in hq
    exact ⟨(h q w hq).1, h1 j (q, w) (by rw [List.getElem?_append_left (List.getElem?_eq_some_iff.mp hj).1]; exact hj)⟩
theorem zPic.mono (h : zPic g0 d G H) {G' : zG} (hs : ∀ a v, G' a = some v → G a = some v) : zPic g0 d G' H := fun a v ha => h a v (hs a v ha)
theorem zPic.kept (h : zPic g0 d G H) (hq : ∀ q, q < H.size → H1[q]? = H[q]?) : zPic g0 d G H1 := fun a v ha => ⟨(h a v ha).1, (h a v ha).2.kept (hq a (h.lt ha))⟩
end ZPIC
section ZCX
variable {g0 : State} {d : zD} {y : MethodName} {cc : ByteArray} {nL : Nat} {ret : Option FieldType} {tb : List ExceptionTableEntry} {p : Program} {l : Launch} {s : State} {m : MethodId} {args : Array Value} {meth : Method} {c : Code}
theorem zCx.st (h : zCx g0 d y cc nL ret tb p l s m meth c) : l.stackTraces = false := h.2.1
theorem zCx.x (h : zCx g0 d y cc nL ret tb p l s m meth c) : p.tables.exec = Jvm.exec := h.2.2.1
theorem zCx.b (h : zCx g0 d y cc nL ret tb p l s m meth c) : c.code = cc := h.2.2.2.1
theorem zCx.ml (h : zCx g0 d y cc nL ret tb p l s m meth c) : c.maxLocals = nL := h.2.2.2.2.1
theorem zCx.own (h : zCx g0 d y cc nL ret tb p l s m meth c) : s.vm.findClass y.cls = some m.cls := h.2.2.2.2.2.1
theorem zCx.warm (h : zCx g0 d y cc nL ret tb p l s m meth c) : g0.WarmedH s.vm := h.2.2.2.2.2.2.1
theorem zCx.old (h : zCx g0 d y cc nL ret tb p l s m meth c) : zOld g0 s.heap := h.2.2.2.2.2.2.2.1
theorem zCx.locks (h : zCx g0 d y cc nL ret tb p l s m meth c) : meth.locks = false := h.2.2.2.2.2.2.2.2.1
theorem zCx.r (h : zCx g0 d y cc nL ret tb p l s m meth c) : meth.sig.returnType = ret := h.2.2.2.2.2.2.2.2.2.1
theorem zCx.nm (h : zCx g0 d y cc nL ret tb p l s m meth c) : meth.name = y.name := h.2.2.2.2.2.2.2.2.2.2.1
theorem zCx.tbl (h : zCx g0 d y cc nL ret tb p l s m meth c) : c.exceptionTable.toList = tb := h.2.2.2.2.2.2.2.2.2.2.2
/-- a word of the tables, here -/
theorem zCx.w (h : zCx g0 d y cc nL ret tb p l s m meth c) {w : Cond} (hw : w ∈ lw_tbl) (hg : goodWord w = true) (args : Array Value) : w.before args s = true := by
  obtain ⟨⟨a0, h0, -⟩, -⟩ := id h
  exact word_at h.warm (good_of_word hg) (h0 w hw)
theorem zCx.K (h : zCx g0 d y cc nL ret tb p l s m meth c) : va_K d.1 zCls (zTys d) s := by
  obtain ⟨⟨a0, h0, hK, -⟩, -⟩ := id h
  exact va_K.moved h.warm.alike hK
theorem zCx.cast (h : zCx g0 d y cc nL ret tb p l s m meth c) {C D : String} (hw : Cond.castable C D ∈ lw_tbl) : va_Nw (.castable C D) s := by
  obtain ⟨⟨a0, h0, -⟩, -⟩ := id h
  exact va_Nw.warmC h.warm (va_Nw.of rfl (h0 _ hw))
theorem zCx.nestM (h : zCx g0 d y cc nL ret tb p l s m meth c) {a : String} {i : Nat} {x : MethodName} {hs : String} (hw : Cond.methodLinkNest a i x hs ∈ lw_tbl) : va_Nw (.methodLinkNest a i x hs) s := by
  obtain ⟨⟨a0, h0, -⟩, -⟩ := id h
  exact va_Nw.warmM h.warm (va_Nw.of rfl (h0 _ hw))
theorem zCx.nestF (h : zCx g0 d y cc nL ret tb p l s m meth c) {a : String} {i : Nat} {b n t hs : String} (hw : Cond.fieldLinkNest a i b n t hs ∈ lw_tbl) : va_Nw (.fieldLinkNest a i b n t hs) s := by
  obtain ⟨⟨a0, h0, -⟩, -⟩ := id h
  exact va_Nw.warmF h.warm (va_Nw.of rfl (h0 _ hw))
theorem u_ws_good {C : String} {T : u_T} {N : Nat} : ∀ w ∈ u_ws C T N, goodWord w = true := by
  intro w hw
  obtain ⟨k, -, rfl⟩ := List.mem_map.mp hw
  unfold u_lay
  split <;> rfl
theorem zCx.lays (h : zCx g0 d y cc nL ret tb p l s m meth c) {ci : Nat} {C : String} {T : u_T} {N : Nat} {ty : Nat → FieldType} (hc : zCl ci C T N ty) (args : Array Value) : ∀ w ∈ u_ws C T N, w.before args s = true := fun w hw => h.w (hc.2.1 w hw) (u_ws_good w hw) args
end ZCX

section ZROWS
variable {g0 : State} {d : zD} {y : MethodName} {cc : ByteArray} {nL : Nat} {ret : Option FieldType} {tb : List ExceptionTableEntry} {p : Program} {l : Launch} {e : Env} {R : Room} {s : State} {m : MethodId} {args : Array Value} {below : List Frame} {meth : Method} {c : Code} {Q : State → Prop} {cells slots : Nat} {G : zG} {L L' : List (Nat × Value)} {st : List Value} {pc : Nat}
theorem z_iconst {n : Int} {v : Int32} (hd : decode cc pc = .ok (.iconst n, 1)) (hv : Int32.ofInt n = v) (k : Z g0 d y cc nL ret tb p l e R s m args below meth c Q cells slots G L (.int v :: st) (pc + 1)) : Z g0 d y cc nL ret tb p l e R s m args below meth c Q cells slots G L (st) pc :=
  fun hc H locs ls hP hS hl => lv_iconst hc.x hc.b hd hv (k hc H locs ls hP hS hl)
theorem z_bipush {n : Int} {v : Int32} (hd : decode cc pc = .ok (.bipush n, 2)) (hv : (Int8.ofInt n).toInt32 = v) (k : Z g0 d y cc nL ret tb p l e R s m args below meth c Q cells slots G L (.int v :: st) (pc + 2)) : Z g0 d y cc nL ret tb p l e R s m args below meth c Q cells slots G L (st) pc :=
  fun hc H locs ls hP hS hl => lv_bipush hc.x hc.b hd hv (k hc H locs ls hP hS hl)
theorem z_sipush {n : Int} {v : Int32} (hd : decode cc pc = .ok (.sipush n, 3)) (hv : (Int16.ofInt n).toInt32 = v) (k : Z g0 d y cc nL ret tb p l e R s m args below meth c Q cells slots G L (.int v :: st) (pc + 3)) : Z g0 d y cc nL ret tb p l e R s m args below meth c Q cells slots G L (st) pc :=
  fun hc H locs ls hP hS hl => lv_sipush hc.x hc.b hd hv (k hc H locs ls hP hS hl)
theorem z_lconst {n : Fin 2} {v : Int64} (hd : decode cc pc = .ok (.lconst n, 1)) (hv : Int64.ofNat (n : Nat) = v) (k : Z g0 d y cc nL ret tb p l e R s m args below meth c Q cells slots G L (.long v :: st) (pc + 1)) : Z g0 d y cc nL ret tb p l e R s m args below meth c Q cells slots G L (st) pc :=
  fun hc H locs ls hP hS hl => lv_lconst hc.x hc.b hd hv (k hc H locs ls hP hS hl)
theorem z_dconst0  (hd : decode cc pc = .ok (.dconst 0, 1))  (k : Z g0 d y cc nL ret tb p l e R s m args below meth c Q cells slots G L (.double 0 :: st) (pc + 1)) : Z g0 d y cc nL ret tb p l e R s m args below meth c Q cells slots G L (st) pc :=
  fun hc H locs ls hP hS hl => lv_dconst0 hc.x hc.b hd  (k hc H locs ls hP hS hl)
theorem z_dconst1  (hd : decode cc pc = .ok (.dconst 1, 1))  (k : Z g0 d y cc nL ret tb p l e R s m args below meth c Q cells slots G L (.double 4607182418800017408 :: st) (pc + 1)) : Z g0 d y cc nL ret tb p l e R s m args below meth c Q cells slots G L (st) pc :=
  fun hc H locs ls hP hS hl => lv_dconst1 hc.x hc.b hd  (k hc H locs ls hP hS hl)
theorem z_iload_n (j : Nat) {k : Fin 4} {i : Nat} {x : Int32} (hd : decode cc pc = .ok (.iload_n k, 1)) (hi : (k : Nat) = i) (hj : L[j]? = some (i, .int x)) (k : Z g0 d y cc nL ret tb p l e R s m args below meth c Q cells slots G L (.int x :: st) (pc + 1)) : Z g0 d y cc nL ret tb p l e R s m args below meth c Q cells slots G L st pc :=
  fun hc H locs ls hP hS hl => lv_iload_n hc.x hc.b hd hi (lv_at hl j hj) (k hc H locs ls hP hS hl)
theorem z_iload (j : Nat) {i : Nat} {x : Int32} (hd : decode cc pc = .ok (.iload i, 2)) (hj : L[j]? = some (i, .int x)) (k : Z g0 d y cc nL ret tb p l e R s m args below meth c Q cells slots G L (.int x :: st) (pc + 2)) : Z g0 d y cc nL ret tb p l e R s m args below meth c Q cells slots G L st pc :=
  fun hc H locs ls hP hS hl => lv_iload hc.x hc.b hd (lv_at hl j hj) (k hc H locs ls hP hS hl)
theorem z_istore_n {k : Fin 4} {i : Nat} {x : Int32} (hd : decode cc pc = .ok (.istore_n k, 1)) (hi : (k : Nat) = i) (hn : i < nL) (hl' : (i, Value.int x) :: L.filter (fun q => !(q.1 == i) && !(q.1 + 1 == i && q.2.category == 2)) = L') (k : Z g0 d y cc nL ret tb p l e R s m args below meth c Q cells slots G L' st (pc + 1)) : Z g0 d y cc nL ret tb p l e R s m args below meth c Q cells slots G L (.int x :: st) pc :=
  fun hc H locs ls hP hS hl => lv_istore_n hc.x hc.b hd hi hl hn hl' (fun ls' h' => k hc H locs ls' hP hS h')
theorem z_istore {i : Nat} {x : Int32} (hd : decode cc pc = .ok (.istore i, 2)) (hn : i < nL) (hl' : (i, Value.int x) :: L.filter (fun q => !(q.1 == i) && !(q.1 + 1 == i && q.2.category == 2)) = L') (k : Z g0 d y cc nL ret tb p l e R s m args below meth c Q cells slots G L' st (pc + 2)) : Z g0 d y cc nL ret tb p l e R s m args below meth c Q cells slots G L (.int x :: st) pc :=
  fun hc H locs ls hP hS hl => lv_istore hc.x hc.b hd hl hn hl' (fun ls' h' => k hc H locs ls' hP hS h')
theorem z_lload_n (j : Nat) {k : Fin 4} {i : Nat} {x : Int64} (hd : decode cc pc = .ok (.lload_n k, 1)) (hi : (k : Nat) = i) (hj : L[j]? = some (i, .long x)) (k : Z g0 d y cc nL ret tb p l e R s m args below meth c Q cells slots G L (.long x :: st) (pc + 1)) : Z g0 d y cc nL ret tb p l e R s m args below meth c Q cells slots G L st pc :=
  fun hc H locs ls hP hS hl => lv_lload_n hc.x hc.b hd hi (lv_at hl j hj) (k hc H locs ls hP hS hl)
theorem z_lload (j : Nat) {i : Nat} {x : Int64} (hd : decode cc pc = .ok (.lload i, 2)) (hj : L[j]? = some (i, .long x)) (k : Z g0 d y cc nL ret tb p l e R s m args below meth c Q cells slots G L (.long x :: st) (pc + 2)) : Z g0 d y cc nL ret tb p l e R s m args below meth c Q cells slots G L st pc :=
  fun hc H locs ls hP hS hl => lv_lload hc.x hc.b hd (lv_at hl j hj) (k hc H locs ls hP hS hl)
theorem z_lstore_n {k : Fin 4} {i : Nat} {x : Int64} (hd : decode cc pc = .ok (.lstore_n k, 1)) (hi : (k : Nat) = i) (hn : i + 1 < nL) (hl' : (i, Value.long x) :: L.filter (fun q => !(q.1 == i) && (!(q.1 == i + 1) && !(q.1 + 1 == i && q.2.category == 2))) = L') (k : Z g0 d y cc nL ret tb p l e R s m args below meth c Q cells slots G L' st (pc + 1)) : Z g0 d y cc nL ret tb p l e R s m args below meth c Q cells slots G L (.long x :: st) pc :=
  fun hc H locs ls hP hS hl => lv_lstore_n hc.x hc.b hd hi hl hn hl' (fun ls' h' => k hc H locs ls' hP hS h')
theorem z_lstore {i : Nat} {x : Int64} (hd : decode cc pc = .ok (.lstore i, 2)) (hn : i + 1 < nL) (hl' : (i, Value.long x) :: L.filter (fun q => !(q.1 == i) && (!(q.1 == i + 1) && !(q.1 + 1 == i && q.2.category == 2))) = L') (k : Z g0 d y cc nL ret tb p l e R s m args below meth c Q cells slots G L' st (pc + 2)) : Z g0 d y cc nL ret tb p l e R s m args below meth c Q cells slots G L (.long x :: st) pc :=
  fun hc H locs ls hP hS hl => lv_lstore hc.x hc.b hd hl hn hl' (fun ls' h' => k hc H locs ls' hP hS h')
theorem z_dload_n (j : Nat) {k : Fin 4} {i : Nat} {x : UInt64} (hd : decode cc pc = .ok (.dload_n k, 1)) (hi : (k : Nat) = i) (hj : L[j]? = some (i, .double x)) (k : Z g0 d y cc nL ret tb p l e R s m args below meth c Q cells slots G L (.double x :: st) (pc + 1)) : Z g0 d y cc nL ret tb p l e R s m args below meth c Q cells slots G L st pc :=
  fun hc H locs ls hP hS hl => lv_dload_n hc.x hc.b hd hi (lv_at hl j hj) (k hc H locs ls hP hS hl)
theorem z_dload (j : Nat) {i : Nat} {x : UInt64} (hd : decode cc pc = .ok (.dload i, 2)) (hj : L[j]? = some (i, .double x)) (k : Z g0 d y cc nL ret tb p l e R s m args below meth c Q cells slots G L (.double x :: st) (pc + 2)) : Z g0 d y cc nL ret tb p l e R s m args below meth c Q cells slots G L st pc :=
  fun hc H locs ls hP hS hl => lv_dload hc.x hc.b hd (lv_at hl j hj) (k hc H locs ls hP hS hl)
theorem z_dstore_n {k : Fin 4} {i : Nat} {x : UInt64} (hd : decode cc pc = .ok (.dstore_n k, 1)) (hi : (k : Nat) = i) (hn : i + 1 < nL) (hl' : (i, Value.double x) :: L.filter (fun q => !(q.1 == i) && (!(q.1 == i + 1) && !(q.1 + 1 == i && q.2.category == 2))) = L') (k : Z g0 d y cc nL ret tb p l e R s m args below meth c Q cells slots G L' st (pc + 1)) : Z g0 d y cc nL ret tb p l e R s m args below meth c Q cells slots G L (.double x :: st) pc :=
  fun hc H locs ls hP hS hl => lv_dstore_n hc.x hc.b hd hi hl hn hl' (fun ls' h' => k hc H locs ls' hP hS h')
theorem z_dstore {i : Nat} {x : UInt64} (hd : decode cc pc = .ok (.dstore i, 2)) (hn : i + 1 < nL) (hl' : (i, Value.double x) :: L.filter (fun q => !(q.1 == i) && (!(q.1 == i + 1) && !(q.1 + 1 == i && q.2.category == 2))) = L') (k : Z g0 d y cc nL ret tb p l e R s m args below meth c Q cells slots G L' st (pc + 2)) : Z g0 d y cc nL ret tb p l e R s m args below meth c Q cells slots G L (.double x :: st) pc :=
  fun hc H locs ls hP hS hl => lv_dstore hc.x hc.b hd hl hn hl' (fun ls' h' => k hc H locs ls' hP hS h')
theorem z_aload_n (j : Nat) {k : Fin 4} {i : Nat} {x : Nat} (hd : decode cc pc = .ok (.aload_n k, 1)) (hi : (k : Nat) = i) (hj : L[j]? = some (i, .ref x)) (k : Z g0 d y cc nL ret tb p l e R s m args below meth c Q cells slots G L (.ref x :: st) (pc + 1)) : Z g0 d y cc nL ret tb p l e R s m args below meth c Q cells slots G L st pc :=
  fun hc H locs ls hP hS hl => lv_aload_n hc.x hc.b hd hi (lv_at hl j hj) (k hc H locs ls hP hS hl)
theorem z_aload (j : Nat) {i : Nat} {x : Nat} (hd : decode cc pc = .ok (.aload i, 2)) (hj : L[j]? = some (i, .ref x)) (k : Z g0 d y cc nL ret tb p l e R s m args below meth c Q cells slots G L (.ref x :: st) (pc + 2)) : Z g0 d y cc nL ret tb p l e R s m args below meth c Q cells slots G L st pc :=
  fun hc H locs ls hP hS hl => lv_aload hc.x hc.b hd (lv_at hl j hj) (k hc H locs ls hP hS hl)
theorem z_astore_n {k : Fin 4} {i : Nat} {x : Nat} (hd : decode cc pc = .ok (.astore_n k, 1)) (hi : (k : Nat) = i) (hn : i < nL) (hl' : (i, Value.ref x) :: L.filter (fun q => !(q.1 == i) && !(q.1 + 1 == i && q.2.category == 2)) = L') (k : Z g0 d y cc nL ret tb p l e R s m args below meth c Q cells slots G L' st (pc + 1)) : Z g0 d y cc nL ret tb p l e R s m args below meth c Q cells slots G L (.ref x :: st) pc :=
  fun hc H locs ls hP hS hl => lv_astore_n hc.x hc.b hd hi hl hn hl' (fun ls' h' => k hc H locs ls' hP hS h')
theorem z_astore {i : Nat} {x : Nat} (hd : decode cc pc = .ok (.astore i, 2)) (hn : i < nL) (hl' : (i, Value.ref x) :: L.filter (fun q => !(q.1 == i) && !(q.1 + 1 == i && q.2.category == 2)) = L') (k : Z g0 d y cc nL ret tb p l e R s m args below meth c Q cells slots G L' st (pc + 2)) : Z g0 d y cc nL ret tb p l e R s m args below meth c Q cells slots G L (.ref x :: st) pc :=
  fun hc H locs ls hP hS hl => lv_astore hc.x hc.b hd hl hn hl' (fun ls' h' => k hc H locs ls' hP hS h')
theorem z_aload_nN (j : Nat) {k : Fin 4} {i : Nat} (hd : decode cc pc = .ok (.aload_n k, 1)) (hi : (k : Nat) = i) (hj : L[j]? = some (i, .null)) (k : Z g0 d y cc nL ret tb p l e R s m args below meth c Q cells slots G L (.null :: st) (pc + 1)) : Z g0 d y cc nL ret tb p l e R s m args below meth c Q cells slots G L st pc :=
  fun hc H locs ls hP hS hl => lv_aload_nN hc.x hc.b hd hi (lv_at hl j hj) (k hc H locs ls hP hS hl)
theorem z_iinc (j : Nat) {i : Nat} {n : Int} {x v : Int32} (hd : decode cc pc = .ok (.iinc i n, 3)) (hj : L[j]? = some (i, .int x)) (hv : x + Int32.ofInt n = v) (hn : i < nL) (hl' : (i, Value.int v) :: L.filter (fun q => !(q.1 == i) && !(q.1 + 1 == i && q.2.category == 2)) = L') (k : Z g0 d y cc nL ret tb p l e R s m args below meth c Q cells slots G L' st (pc + 3)) : Z g0 d y cc nL ret tb p l e R s m args below meth c Q cells slots G L st pc :=
  fun hc H locs ls hP hS hl => lv_iinc hc.x hc.b hd hl hj hv hn hl' (fun ls' h' => k hc H locs ls' hP hS h')
theorem z_iadd {a b : Int32} (hd : decode cc pc = .ok (.iadd, 1))  (k : Z g0 d y cc nL ret tb p l e R s m args below meth c Q cells slots G L (.int (a + b) :: st) (pc + 1)) : Z g0 d y cc nL ret tb p l e R s m args below meth c Q cells slots G L (.int b :: .int a :: st) pc :=
  fun hc H locs ls hP hS hl => lv_iadd hc.x hc.b hd  (k hc H locs ls hP hS hl)
theorem z_isub {a b : Int32} (hd : decode cc pc = .ok (.isub, 1))  (k : Z g0 d y cc nL ret tb p l e R s m args below meth c Q cells slots G L (.int (a - b) :: st) (pc + 1)) : Z g0 d y cc nL ret tb p l e R s m args below meth c Q cells slots G L (.int b :: .int a :: st) pc :=
  fun hc H locs ls hP hS hl => lv_isub hc.x hc.b hd  (k hc H locs ls hP hS hl)
theorem z_imul {a b : Int32} (hd : decode cc pc = .ok (.imul, 1))  (k : Z g0 d y cc nL ret tb p l e R s m args below meth c Q cells slots G L (.int (a * b) :: st) (pc + 1)) : Z g0 d y cc nL ret tb p l e R s m args below meth c Q cells slots G L (.int b :: .int a :: st) pc :=
  fun hc H locs ls hP hS hl => lv_imul hc.x hc.b hd  (k hc H locs ls hP hS hl)
theorem z_iand {a b : Int32} (hd : decode cc pc = .ok (.iand, 1))  (k : Z g0 d y cc nL ret tb p l e R s m args below meth c Q cells slots G L (.int (a &&& b) :: st) (pc + 1)) : Z g0 d y cc nL ret tb p l e R s m args below meth c Q cells slots G L (.int b :: .int a :: st) pc :=
  fun hc H locs ls hP hS hl => lv_iand hc.x hc.b hd  (k hc H locs ls hP hS hl)
theorem z_ior {a b : Int32} (hd : decode cc pc = .ok (.ior, 1))  (k : Z g0 d y cc nL ret tb p l e R s m args below meth c Q cells slots G L (.int (a ||| b) :: st) (pc + 1)) : Z g0 d y cc nL ret tb p l e R s m args below meth c Q cells slots G L (.int b :: .int a :: st) pc :=
  fun hc H locs ls hP hS hl => lv_ior hc.x hc.b hd  (k hc H locs ls hP hS hl)
theorem z_ixor {a b : Int32} (hd : decode cc pc = .ok (.ixor, 1))  (k : Z g0 d y cc nL ret tb p l e R s m args below meth c Q cells slots G L (.int (a ^^^ b) :: st) (pc + 1)) : Z g0 d y cc nL ret tb p l e R s m args below meth c Q cells slots G L (.int b :: .int a :: st) pc :=
  fun hc H locs ls hP hS hl => lv_ixor hc.x hc.b hd  (k hc H locs ls hP hS hl)
theorem z_idiv {a b : Int32} (hd : decode cc pc = .ok (.idiv, 1)) (hne : ¬ b = 0) (k : Z g0 d y cc nL ret tb p l e R s m args below meth c Q cells slots G L (.int (a / b) :: st) (pc + 1)) : Z g0 d y cc nL ret tb p l e R s m args below meth c Q cells slots G L (.int b :: .int a :: st) pc :=
  fun hc H locs ls hP hS hl => lv_idiv hc.x hc.b hd hne (k hc H locs ls hP hS hl)
theorem z_irem {a b : Int32} (hd : decode cc pc = .ok (.irem, 1)) (hne : ¬ b = 0) (k : Z g0 d y cc nL ret tb p l e R s m args below meth c Q cells slots G L (.int (a - a / b * b) :: st) (pc + 1)) : Z g0 d y cc nL ret tb p l e R s m args below meth c Q cells slots G L (.int b :: .int a :: st) pc :=
  fun hc H locs ls hP hS hl => lv_irem hc.x hc.b hd hne (k hc H locs ls hP hS hl)
theorem z_ineg {a : Int32} (hd : decode cc pc = .ok (.ineg, 1))  (k : Z g0 d y cc nL ret tb p l e R s m args below meth c Q cells slots G L (.int (-a) :: st) (pc + 1)) : Z g0 d y cc nL ret tb p l e R s m args below meth c Q cells slots G L (.int a :: st) pc :=
  fun hc H locs ls hP hS hl => lv_ineg hc.x hc.b hd  (k hc H locs ls hP hS hl)
theorem z_ishl {a b : Int32} (hd : decode cc pc = .ok (.ishl, 1))  (k : Z g0 d y cc nL ret tb p l e R s m args below meth c Q cells slots G L (.int (a <<< (b &&& 31)) :: st) (pc + 1)) : Z g0 d y cc nL ret tb p l e R s m args below meth c Q cells slots G L (.int b :: .int a :: st) pc :=
  fun hc H locs ls hP hS hl => lv_ishl hc.x hc.b hd  (k hc H locs ls hP hS hl)
theorem z_ishr {a b : Int32} (hd : decode cc pc = .ok (.ishr, 1))  (k : Z g0 d y cc nL ret tb p l e R s m args below meth c Q cells slots G L (.int (a >>> (b &&& 31)) :: st) (pc + 1)) : Z g0 d y cc nL ret tb p l e R s m args below meth c Q cells slots G L (.int b :: .int a :: st) pc :=
  fun hc H locs ls hP hS hl => lv_ishr hc.x hc.b hd  (k hc H locs ls hP hS hl)
theorem z_iushr {a b v : Int32} (hd : decode cc pc = .ok (.iushr, 1)) (hv : (a.toUInt32 >>> (b.toUInt32 &&& Int32.toUInt32 31)).toInt32 = v) (k : Z g0 d y cc nL ret tb p l e R s m args below meth c Q cells slots G L (.int v :: st) (pc + 1)) : Z g0 d y cc nL ret tb p l e R s m args below meth c Q cells slots G L (.int b :: .int a :: st) pc :=
  fun hc H locs ls hP hS hl => lv_iushr hc.x hc.b hd hv (k hc H locs ls hP hS hl)
theorem z_ladd {a b : Int64} (hd : decode cc pc = .ok (.ladd, 1))  (k : Z g0 d y cc nL ret tb p l e R s m args below meth c Q cells slots G L (.long (a + b) :: st) (pc + 1)) : Z g0 d y cc nL ret tb p l e R s m args below meth c Q cells slots G L (.long b :: .long a :: st) pc :=
  fun hc H locs ls hP hS hl => lv_ladd hc.x hc.b hd  (k hc H locs ls hP hS hl)
theorem z_lmul {a b : Int64} (hd : decode cc pc = .ok (.lmul, 1))  (k : Z g0 d y cc nL ret tb p l e R s m args below meth c Q cells slots G L (.long (a * b) :: st) (pc + 1)) : Z g0 d y cc nL ret tb p l e R s m args below meth c Q cells slots G L (.long b :: .long a :: st) pc :=
  fun hc H locs ls hP hS hl => lv_lmul hc.x hc.b hd  (k hc H locs ls hP hS hl)
theorem z_lsub {a b : Int64} (hd : decode cc pc = .ok (.lsub, 1))  (k : Z g0 d y cc nL ret tb p l e R s m args below meth c Q cells slots G L (.long (a - b) :: st) (pc + 1)) : Z g0 d y cc nL ret tb p l e R s m args below meth c Q cells slots G L (.long b :: .long a :: st) pc :=
  fun hc H locs ls hP hS hl => lv_lsub hc.x hc.b hd  (k hc H locs ls hP hS hl)
theorem z_i2l {a : Int32} {v : Int64} (hd : decode cc pc = .ok (.i2l, 1)) (hv : a.toInt64 = v) (k : Z g0 d y cc nL ret tb p l e R s m args below meth c Q cells slots G L (.long v :: st) (pc + 1)) : Z g0 d y cc nL ret tb p l e R s m args below meth c Q cells slots G L (.int a :: st) pc :=
  fun hc H locs ls hP hS hl => lv_i2l hc.x hc.b hd hv (k hc H locs ls hP hS hl)
theorem z_i2c {a : Int32} {v : Int32} (hd : decode cc pc = .ok (.i2c, 1)) (hv : (a.toUInt32 % 65536).toInt32 = v) (k : Z g0 d y cc nL ret tb p l e R s m args below meth c Q cells slots G L (.int v :: st) (pc + 1)) : Z g0 d y cc nL ret tb p l e R s m args below meth c Q cells slots G L (.int a :: st) pc :=
  fun hc H locs ls hP hS hl => lv_i2c hc.x hc.b hd hv (k hc H locs ls hP hS hl)
theorem z_i2b {a : Int32} {v : Int32} (hd : decode cc pc = .ok (.i2b, 1)) (hv : a.toInt8.toInt32 = v) (k : Z g0 d y cc nL ret tb p l e R s m args below meth c Q cells slots G L (.int v :: st) (pc + 1)) : Z g0 d y cc nL ret tb p l e R s m args below meth c Q cells slots G L (.int a :: st) pc :=
  fun hc H locs ls hP hS hl => lv_i2b hc.x hc.b hd hv (k hc H locs ls hP hS hl)
theorem z_dup {va : Value} (hd : decode cc pc = .ok (.dup, 1)) (hva : va.category = 1) (k : Z g0 d y cc nL ret tb p l e R s m args below meth c Q cells slots G L (va :: va :: st) (pc + 1)) : Z g0 d y cc nL ret tb p l e R s m args below meth c Q cells slots G L (va :: st) pc :=
  fun hc H locs ls hP hS hl => lv_dup hc.x hc.b hd hva (k hc H locs ls hP hS hl)
theorem z_pop {va : Value} (hd : decode cc pc = .ok (.pop, 1)) (hva : va.category = 1) (k : Z g0 d y cc nL ret tb p l e R s m args below meth c Q cells slots G L (st) (pc + 1)) : Z g0 d y cc nL ret tb p l e R s m args below meth c Q cells slots G L (va :: st) pc :=
  fun hc H locs ls hP hS hl => lv_pop hc.x hc.b hd hva (k hc H locs ls hP hS hl)
theorem z_dup_x1 {va vb : Value} (hd : decode cc pc = .ok (.dup_x1, 1)) (hva : va.category = 1) (hvb : vb.category = 1) (k : Z g0 d y cc nL ret tb p l e R s m args below meth c Q cells slots G L (va :: vb :: va :: st) (pc + 1)) : Z g0 d y cc nL ret tb p l e R s m args below meth c Q cells slots G L (va :: vb :: st) pc :=
  fun hc H locs ls hP hS hl => lv_dup_x1 hc.x hc.b hd hva hvb (k hc H locs ls hP hS hl)
theorem z_dup_x2 {va vb vd : Value} (hd : decode cc pc = .ok (.dup_x2, 1)) (hva : va.category = 1) (hvb : vb.category = 1) (hvd : vd.category = 1) (k : Z g0 d y cc nL ret tb p l e R s m args below meth c Q cells slots G L (va :: vb :: vd :: va :: st) (pc + 1)) : Z g0 d y cc nL ret tb p l e R s m args below meth c Q cells slots G L (va :: vb :: vd :: st) pc :=
  fun hc H locs ls hP hS hl => lv_dup_x2 hc.x hc.b hd hva hvb hvd (k hc H locs ls hP hS hl)
theorem z_dup2_11 {va vb : Value} (hd : decode cc pc = .ok (.dup2, 1)) (hva : va.category = 1) (hvb : vb.category = 1) (k : Z g0 d y cc nL ret tb p l e R s m args below meth c Q cells slots G L (va :: vb :: va :: vb :: st) (pc + 1)) : Z g0 d y cc nL ret tb p l e R s m args below meth c Q cells slots G L (va :: vb :: st) pc :=
  fun hc H locs ls hP hS hl => lv_dup2_11 hc.x hc.b hd hva hvb (k hc H locs ls hP hS hl)
theorem z_dup2_2 {va : Value} (hd : decode cc pc = .ok (.dup2, 1)) (hva : va.category = 2) (k : Z g0 d y cc nL ret tb p l e R s m args below meth c Q cells slots G L (va :: va :: st) (pc + 1)) : Z g0 d y cc nL ret tb p l e R s m args below meth c Q cells slots G L (va :: st) pc :=
  fun hc H locs ls hP hS hl => lv_dup2_2 hc.x hc.b hd hva (k hc H locs ls hP hS hl)
theorem z_pop2_11 {va vb : Value} (hd : decode cc pc = .ok (.pop2, 1)) (hva : va.category = 1) (hvb : vb.category = 1) (k : Z g0 d y cc nL ret tb p l e R s m args below meth c Q cells slots G L (st) (pc + 1)) : Z g0 d y cc nL ret tb p l e R s m args below meth c Q cells slots G L (va :: vb :: st) pc :=
  fun hc H locs ls hP hS hl => lv_pop2_11 hc.x hc.b hd hva hvb (k hc H locs ls hP hS hl)
theorem z_pop2_2 {va : Value} (hd : decode cc pc = .ok (.pop2, 1)) (hva : va.category = 2) (k : Z g0 d y cc nL ret tb p l e R s m args below meth c Q cells slots G L (st) (pc + 1)) : Z g0 d y cc nL ret tb p l e R s m args below meth c Q cells slots G L (va :: st) pc :=
  fun hc H locs ls hP hS hl => lv_pop2_2 hc.x hc.b hd hva (k hc H locs ls hP hS hl)
theorem z_null  (hd : decode cc pc = .ok (.aconst_null, 1))  (k : Z g0 d y cc nL ret tb p l e R s m args below meth c Q cells slots G L (.null :: st) (pc + 1)) : Z g0 d y cc nL ret tb p l e R s m args below meth c Q cells slots G L (st) pc :=
  fun hc H locs ls hP hS hl => lv_null hc.x hc.b hd  (k hc H locs ls hP hS hl)
theorem z_i2d {a : Int32} (hd : decode cc pc = .ok (.i2d, 1))  (k : Z g0 d y cc nL ret tb p l e R s m args below meth c Q cells slots G L (.double (FP.i2d a) :: st) (pc + 1)) : Z g0 d y cc nL ret tb p l e R s m args below meth c Q cells slots G L (.int a :: st) pc :=
  fun hc H locs ls hP hS hl => lv_i2d hc.x hc.b hd  (k hc H locs ls hP hS hl)
theorem z_d2l {a : UInt64} (hd : decode cc pc = .ok (.d2l, 1))  (k : Z g0 d y cc nL ret tb p l e R s m args below meth c Q cells slots G L (.long (FP.d2l a) :: st) (pc + 1)) : Z g0 d y cc nL ret tb p l e R s m args below meth c Q cells slots G L (.double a :: st) pc :=
  fun hc H locs ls hP hS hl => lv_d2l hc.x hc.b hd  (k hc H locs ls hP hS hl)
theorem z_dcmp {a b : UInt64} {op : CmpOp} (hd : decode cc pc = .ok (.dcmp op, 1))  (k : Z g0 d y cc nL ret tb p l e R s m args below meth c Q cells slots G L (.int (Op.cmpValue (FP.dcmp a b) op) :: st) (pc + 1)) : Z g0 d y cc nL ret tb p l e R s m args below meth c Q cells slots G L (.double b :: .double a :: st) pc :=
  fun hc H locs ls hP hS hl => lv_dcmp hc.x hc.b hd  (k hc H locs ls hP hS hl)
theorem z_dadd {a b : UInt64} (hd : decode cc pc = .ok (.dadd, 1)) (hne : vf_n64 (FP.dadd a b)) (k : Z g0 d y cc nL ret tb p l e R s m args below meth c Q cells slots G L (.double (FP.dadd a b) :: st) (pc + 1)) : Z g0 d y cc nL ret tb p l e R s m args below meth c Q cells slots G L (.double b :: .double a :: st) pc :=
  fun hc H locs ls hP hS hl => lv_dadd hc.x hc.b hd hne (k hc H locs ls hP hS hl)
theorem z_dmul {a b : UInt64} (hd : decode cc pc = .ok (.dmul, 1)) (hne : vf_n64 (FP.dmul a b)) (k : Z g0 d y cc nL ret tb p l e R s m args below meth c Q cells slots G L (.double (FP.dmul a b) :: st) (pc + 1)) : Z g0 d y cc nL ret tb p l e R s m args below meth c Q cells slots G L (.double b :: .double a :: st) pc :=
  fun hc H locs ls hP hS hl => lv_dmul hc.x hc.b hd hne (k hc H locs ls hP hS hl)
theorem z_ddiv {a b : UInt64} (hd : decode cc pc = .ok (.ddiv, 1)) (hne : vf_n64 (FP.ddiv a b)) (k : Z g0 d y cc nL ret tb p l e R s m args below meth c Q cells slots G L (.double (FP.ddiv a b) :: st) (pc + 1)) : Z g0 d y cc nL ret tb p l e R s m args below meth c Q cells slots G L (.double b :: .double a :: st) pc :=
  fun hc H locs ls hP hS hl => lv_ddiv hc.x hc.b hd hne (k hc H locs ls hP hS hl)
theorem z_if_eq {x : Int32} {off : Int} (tgt : Nat) (hd : decode cc pc = .ok (.ifCond .eq off, 3)) (ht : (pc : Int) + off = (tgt : Int)) (kt : x = 0 → Z g0 d y cc nL ret tb p l e R s m args below meth c Q cells slots G L st tgt) (kf : ¬ x = 0 → Z g0 d y cc nL ret tb p l e R s m args below meth c Q cells slots G L st (pc + 3)) : Z g0 d y cc nL ret tb p l e R s m args below meth c Q cells slots G L (.int x :: st) pc :=
  fun hc H locs ls hP hS hl => lv_if_eq hc.x hc.b hd ht (fun q => kt q hc H locs ls hP hS hl) (fun q => kf q hc H locs ls hP hS hl)
theorem z_icmp_eq {x z : Int32} {off : Int} (tgt : Nat) (hd : decode cc pc = .ok (.if_icmp .eq off, 3)) (ht : (pc : Int) + off = (tgt : Int)) (kt : x = z → Z g0 d y cc nL ret tb p l e R s m args below meth c Q cells slots G L st tgt) (kf : ¬ x = z → Z g0 d y cc nL ret tb p l e R s m args below meth c Q cells slots G L st (pc + 3)) : Z g0 d y cc nL ret tb p l e R s m args below meth c Q cells slots G L (.int z :: .int x :: st) pc :=
  fun hc H locs ls hP hS hl => lv_icmp_eq hc.x hc.b hd ht (fun q => kt q hc H locs ls hP hS hl) (fun q => kf q hc H locs ls hP hS hl)
theorem z_if_ne {x : Int32} {off : Int} (tgt : Nat) (hd : decode cc pc = .ok (.ifCond .ne off, 3)) (ht : (pc : Int) + off = (tgt : Int)) (kt : ¬ x = 0 → Z g0 d y cc nL ret tb p l e R s m args below meth c Q cells slots G L st tgt) (kf : x = 0 → Z g0 d y cc nL ret tb p l e R s m args below meth c Q cells slots G L st (pc + 3)) : Z g0 d y cc nL ret tb p l e R s m args below meth c Q cells slots G L (.int x :: st) pc :=
  fun hc H locs ls hP hS hl => lv_if_ne hc.x hc.b hd ht (fun q => kt q hc H locs ls hP hS hl) (fun q => kf q hc H locs ls hP hS hl)
theorem z_icmp_ne {x z : Int32} {off : Int} (tgt : Nat) (hd : decode cc pc = .ok (.if_icmp .ne off, 3)) (ht : (pc : Int) + off = (tgt : Int)) (kt : ¬ x = z → Z g0 d y cc nL ret tb p l e R s m args below meth c Q cells slots G L st tgt) (kf : x = z → Z g0 d y cc nL ret tb p l e R s m args below meth c Q cells slots G L st (pc + 3)) : Z g0 d y cc nL ret tb p l e R s m args below meth c Q cells slots G L (.int z :: .int x :: st) pc :=
  fun hc H locs ls hP hS hl => lv_icmp_ne hc.x hc.b hd ht (fun q => kt q hc H locs ls hP hS hl) (fun q => kf q hc H locs ls hP hS hl)
theorem z_if_lt {x : Int32} {off : Int} (tgt : Nat) (hd : decode cc pc = .ok (.ifCond .lt off, 3)) (ht : (pc : Int) + off = (tgt : Int)) (kt : x < 0 → Z g0 d y cc nL ret tb p l e R s m args below meth c Q cells slots G L st tgt) (kf : ¬ x < 0 → Z g0 d y cc nL ret tb p l e R s m args below meth c Q cells slots G L st (pc + 3)) : Z g0 d y cc nL ret tb p l e R s m args below meth c Q cells slots G L (.int x :: st) pc :=
  fun hc H locs ls hP hS hl => lv_if_lt hc.x hc.b hd ht (fun q => kt q hc H locs ls hP hS hl) (fun q => kf q hc H locs ls hP hS hl)
theorem z_icmp_lt {x z : Int32} {off : Int} (tgt : Nat) (hd : decode cc pc = .ok (.if_icmp .lt off, 3)) (ht : (pc : Int) + off = (tgt : Int)) (kt : x < z → Z g0 d y cc nL ret tb p l e R s m args below meth c Q cells slots G L st tgt) (kf : ¬ x < z → Z g0 d y cc nL ret tb p l e R s m args below meth c Q cells slots G L st (pc + 3)) : Z g0 d y cc nL ret tb p l e R s m args below meth c Q cells slots G L (.int z :: .int x :: st) pc :=
  fun hc H locs ls hP hS hl => lv_icmp_lt hc.x hc.b hd ht (fun q => kt q hc H locs ls hP hS hl) (fun q => kf q hc H locs ls hP hS hl)
theorem z_if_ge {x : Int32} {off : Int} (tgt : Nat) (hd : decode cc pc = .ok (.ifCond .ge off, 3)) (ht : (pc : Int) + off = (tgt : Int)) (kt : 0 ≤ x → Z g0 d y cc nL ret tb p l e R s m args below meth c Q cells slots G L st tgt) (kf : ¬ 0 ≤ x → Z g0 d y cc nL ret tb p l e R s m args below meth c Q cells slots G L st (pc + 3)) : Z g0 d y cc nL ret tb p l e R s m args below meth c Q cells slots G L (.int x :: st) pc :=
  fun hc H locs ls hP hS hl => lv_if_ge hc.x hc.b hd ht (fun q => kt q hc H locs ls hP hS hl) (fun q => kf q hc H locs ls hP hS hl)
theorem z_icmp_ge {x z : Int32} {off : Int} (tgt : Nat) (hd : decode cc pc = .ok (.if_icmp .ge off, 3)) (ht : (pc : Int) + off = (tgt : Int)) (kt : z ≤ x → Z g0 d y cc nL ret tb p l e R s m args below meth c Q cells slots G L st tgt) (kf : ¬ z ≤ x → Z g0 d y cc nL ret tb p l e R s m args below meth c Q cells slots G L st (pc + 3)) : Z g0 d y cc nL ret tb p l e R s m args below meth c Q cells slots G L (.int z :: .int x :: st) pc :=
  fun hc H locs ls hP hS hl => lv_icmp_ge hc.x hc.b hd ht (fun q => kt q hc H locs ls hP hS hl) (fun q => kf q hc H locs ls hP hS hl)
theorem z_if_gt {x : Int32} {off : Int} (tgt : Nat) (hd : decode cc pc = .ok (.ifCond .gt off, 3)) (ht : (pc : Int) + off = (tgt : Int)) (kt : 0 < x → Z g0 d y cc nL ret tb p l e R s m args below meth c Q cells slots G L st tgt) (kf : ¬ 0 < x → Z g0 d y cc nL ret tb p l e R s m args below meth c Q cells slots G L st (pc + 3)) : Z g0 d y cc nL ret tb p l e R s m args below meth c Q cells slots G L (.int x :: st) pc :=
  fun hc H locs ls hP hS hl => lv_if_gt hc.x hc.b hd ht (fun q => kt q hc H locs ls hP hS hl) (fun q => kf q hc H locs ls hP hS hl)
theorem z_icmp_gt {x z : Int32} {off : Int} (tgt : Nat) (hd : decode cc pc = .ok (.if_icmp .gt off, 3)) (ht : (pc : Int) + off = (tgt : Int)) (kt : z < x → Z g0 d y cc nL ret tb p l e R s m args below meth c Q cells slots G L st tgt) (kf : ¬ z < x → Z g0 d y cc nL ret tb p l e R s m args below meth c Q cells slots G L st (pc + 3)) : Z g0 d y cc nL ret tb p l e R s m args below meth c Q cells slots G L (.int z :: .int x :: st) pc :=
  fun hc H locs ls hP hS hl => lv_icmp_gt hc.x hc.b hd ht (fun q => kt q hc H locs ls hP hS hl) (fun q => kf q hc H locs ls hP hS hl)
theorem z_if_le {x : Int32} {off : Int} (tgt : Nat) (hd : decode cc pc = .ok (.ifCond .le off, 3)) (ht : (pc : Int) + off = (tgt : Int)) (kt : x ≤ 0 → Z g0 d y cc nL ret tb p l e R s m args below meth c Q cells slots G L st tgt) (kf : ¬ x ≤ 0 → Z g0 d y cc nL ret tb p l e R s m args below meth c Q cells slots G L st (pc + 3)) : Z g0 d y cc nL ret tb p l e R s m args below meth c Q cells slots G L (.int x :: st) pc :=
  fun hc H locs ls hP hS hl => lv_if_le hc.x hc.b hd ht (fun q => kt q hc H locs ls hP hS hl) (fun q => kf q hc H locs ls hP hS hl)
theorem z_icmp_le {x z : Int32} {off : Int} (tgt : Nat) (hd : decode cc pc = .ok (.if_icmp .le off, 3)) (ht : (pc : Int) + off = (tgt : Int)) (kt : x ≤ z → Z g0 d y cc nL ret tb p l e R s m args below meth c Q cells slots G L st tgt) (kf : ¬ x ≤ z → Z g0 d y cc nL ret tb p l e R s m args below meth c Q cells slots G L st (pc + 3)) : Z g0 d y cc nL ret tb p l e R s m args below meth c Q cells slots G L (.int z :: .int x :: st) pc :=
  fun hc H locs ls hP hS hl => lv_icmp_le hc.x hc.b hd ht (fun q => kt q hc H locs ls hP hS hl) (fun q => kf q hc H locs ls hP hS hl)
theorem z_goto {off : Int} (tgt : Nat) (hd : decode cc pc = .ok (.goto off, 3)) (ht : (pc : Int) + off = (tgt : Int)) (k : Z g0 d y cc nL ret tb p l e R s m args below meth c Q cells slots G L st tgt) : Z g0 d y cc nL ret tb p l e R s m args below meth c Q cells slots G L st pc :=
  fun hc H locs ls hP hS hl => lv_goto hc.x hc.b hd ht (k hc H locs ls hP hS hl)
theorem z_tableIn {dflt lo hi : Int} {offs : Array Int} {len : Nat} {x : Int32} {off : Int} (tgt : Nat) (hd : decode cc pc = .ok (.tableswitch dflt lo hi offs, len)) (h1 : ¬ x.toInt < lo) (h2 : ¬ hi < x.toInt) (ho : offs[(x.toInt - lo).toNat]? = some off) (ht : (pc : Int) + off = (tgt : Int)) (k : Z g0 d y cc nL ret tb p l e R s m args below meth c Q cells slots G L st tgt) : Z g0 d y cc nL ret tb p l e R s m args below meth c Q cells slots G L (.int x :: st) pc :=
  fun hc H locs ls hP hS hl => lv_tableIn hc.x hc.b hd h1 h2 ho ht (k hc H locs ls hP hS hl)
theorem z_tableOut {dflt lo hi : Int} {offs : Array Int} {len : Nat} {x : Int32} (tgt : Nat) (hd : decode cc pc = .ok (.tableswitch dflt lo hi offs, len)) (h : x.toInt < lo ∨ hi < x.toInt) (ht : (pc : Int) + dflt = (tgt : Int)) (k : Z g0 d y cc nL ret tb p l e R s m args below meth c Q cells slots G L st tgt) : Z g0 d y cc nL ret tb p l e R s m args below meth c Q cells slots G L (.int x :: st) pc :=
  fun hc H locs ls hP hS hl => lv_tableOut hc.x hc.b hd h ht (k hc H locs ls hP hS hl)
theorem z_ifnonnull {x : Nat} {off : Int} (tgt : Nat) (hd : decode cc pc = .ok (.ifnonnull off, 3)) (ht : (pc : Int) + off = (tgt : Int)) (k : Z g0 d y cc nL ret tb p l e R s m args below meth c Q cells slots G L st tgt) : Z g0 d y cc nL ret tb p l e R s m args below meth c Q cells slots G L (.ref x :: st) pc :=
  fun hc H locs ls hP hS hl => lv_ifnonnull hc.x hc.b hd ht (k hc H locs ls hP hS hl)
theorem z_ldc {idx : Nat} {v : Int32} (hq : Cond.constant y.cls idx v ∈ lw_tbl) (hd : decode cc pc = .ok (.ldc idx, 2)) (k : Z g0 d y cc nL ret tb p l e R s m args below meth c Q cells slots G L (.int v :: st) (pc + 2)) : Z g0 d y cc nL ret tb p l e R s m args below meth c Q cells slots G L st pc :=
  fun hc H locs ls hP hS hl => lv_ldc hc.x hc.b hc.own (hc.w hq rfl args) hd (k hc H locs ls hP hS hl)
theorem z_ldcw {idx : Nat} {v : Int32} (hq : Cond.constant y.cls idx v ∈ lw_tbl) (hd : decode cc pc = .ok (.ldc_w idx, 3)) (k : Z g0 d y cc nL ret tb p l e R s m args below meth c Q cells slots G L (.int v :: st) (pc + 3)) : Z g0 d y cc nL ret tb p l e R s m args below meth c Q cells slots G L st pc :=
  fun hc H locs ls hP hS hl => lv_ldcw hc.x hc.b hc.own (hc.w hq rfl args) hd (k hc H locs ls hP hS hl)
theorem z_ldc2 {idx : Nat} {v : Int64} (hq : Cond.constantLong y.cls idx v ∈ lw_tbl) (hd : decode cc pc = .ok (.ldc2_w idx, 3)) (k : Z g0 d y cc nL ret tb p l e R s m args below meth c Q cells slots G L (.long v :: st) (pc + 3)) : Z g0 d y cc nL ret tb p l e R s m args below meth c Q cells slots G L st pc :=
  fun hc H locs ls hP hS hl => lv_ldc2 hc.x hc.b hc.own (hc.w hq rfl args) hd (k hc H locs ls hP hS hl)
theorem z_ldc2d {idx : Nat} {v : UInt64} (hq : Cond.constantDouble y.cls idx v ∈ lw_tbl) (hd : decode cc pc = .ok (.ldc2_w idx, 3)) (k : Z g0 d y cc nL ret tb p l e R s m args below meth c Q cells slots G L (.double v :: st) (pc + 3)) : Z g0 d y cc nL ret tb p l e R s m args below meth c Q cells slots G L st pc :=
  fun hc H locs ls hP hS hl => lv_ldc2d hc.x hc.b hc.own (hc.w hq rfl args) hd (k hc H locs ls hP hS hl)
theorem z_topi {x : Int32} (k : ∀ v : Int32, v = x → Z g0 d y cc nL ret tb p l e R s m args below meth c Q cells slots G L (.int v :: st) pc) : Z g0 d y cc nL ret tb p l e R s m args below meth c Q cells slots G L (.int x :: st) pc := k x rfl
theorem z_topv {x v : Int32} (h : x = v) (k : Z g0 d y cc nL ret tb p l e R s m args below meth c Q cells slots G L (.int v :: st) pc) : Z g0 d y cc nL ret tb p l e R s m args below meth c Q cells slots G L (.int x :: st) pc := by rw [h]; exact k
theorem z_sub (is : List Nat) (h : lv_pick L is = L') (k : Z g0 d y cc nL ret tb p l e R s m args below meth c Q cells slots G L' st pc) : Z g0 d y cc nL ret tb p l e R s m args below meth c Q cells slots G L st pc := fun hc H locs ls hP hS hl => k hc H locs ls hP hS (lv_sub hl is h)
theorem z_widen {k n : Nat} (h1 : cells ≤ k) (h2 : slots ≤ n) (kk : Z g0 d y cc nL ret tb p l e R s m args below meth c Q k n G L st pc) : Z g0 d y cc nL ret tb p l e R s m args below meth c Q cells slots G L st pc := fun hc H locs ls hP hS hl => W.widen h1 h2 (kk hc H locs ls hP hS hl)
theorem z_pic {G' : zG} (h : ∀ a v, G' a = some v → G a = some v) (k : Z g0 d y cc nL ret tb p l e R s m args below meth c Q cells slots G' L st pc) : Z g0 d y cc nL ret tb p l e R s m args below meth c Q cells slots G L st pc := fun hc H locs ls hP hS hl => k hc H locs ls (hP.mono h) hS hl
theorem z_get {ci : Nat} {C : String} {T : u_T} {N : Nat} {ty : Nat → FieldType} (hz : zCl ci C T N ty) {a idx : Nat} {fs : List Value} {v : Value} (k : Nat) (hk : k < N) (hq : Cond.fieldLink y.cls idx (T k).1 (T k).2.1 (T k).2.2.1 ∈ lw_tbl) (hG : G a = some (zob ci fs)) (hv : fs[k]? = some v) (hd : decode cc pc = .ok (.getfield idx, 3)) (kk : Z g0 d y cc nL ret tb p l e R s m args below meth c Q cells slots G L (v :: st) (pc + 3)) : Z g0 d y cc nL ret tb p l e R s m args below meth c Q cells slots G L (.ref a :: st) pc := by
  intro hc H locs ls hP hS hl
  obtain ⟨j, hj⟩ := hP.in hG
  exact va_get hc.x hc.b (hc.lays hz args) (fun _ h => h) hc.own hc.K hP.P j hj hz.1 k hk (hc.w hq rfl args) (fun _ h => h) hv hd (kk hc H locs ls hP hS hl)
theorem z_put {ci : Nat} {C : String} {T : u_T} {N : Nat} {ty : Nat → FieldType} (hz : zCl ci C T N ty) {a idx : Nat} {fs : List Value} {v : Value} (k : Nat) (hk : k < N) (hq : Cond.fieldLink y.cls idx (T k).1 (T k).2.1 (T k).2.2.1 ∈ lw_tbl) (hG : G a = some (zob ci fs)) (hfin : (T k).2.2.2 = false) (hn : narrow (ty k) v = v) (hfit : fits (ty k) v = true) (hlen : k < fs.length) (hd : decode cc pc = .ok (.putfield idx, 3)) (kk : Z g0 d y cc nL ret tb p l e R s m args below meth c Q cells slots (zu G a (zob ci (fs.set k v))) L st (pc + 3)) : Z g0 d y cc nL ret tb p l e R s m args below meth c Q cells slots G L (v :: .ref a :: st) pc := by
  intro hc H locs ls hP hS hl
  obtain ⟨j, hj⟩ := hP.in hG
  exact va_put hc.x hc.b (hc.lays hz args) (fun _ h => h) ty hz.2.2.1 hz.2.2.2 hc.own hc.K hP.P hP.D hS j hj hz.1 k hk (hc.w hq rfl args) (fun _ h => h) hfin (hz.2.2.1 k hk) hn hfit hlen hd (fun H1 locs1 hP1 hD1 hS1 => kk hc H1 locs1 ls (hP.set hj hP1) hS1 hl)
theorem z_putF {ci : Nat} {C : String} {T : u_T} {N : Nat} {ty : Nat → FieldType} (hz : zCl ci C T N ty) {a idx : Nat} {fs : List Value} {v : Value} (k : Nat) (hk : k < N) (hq : Cond.fieldLink y.cls idx (T k).1 (T k).2.1 (T k).2.2.1 ∈ lw_tbl) (hG : G a = some (zob ci fs)) (hfin : (T k).2.2.2 = true) (hin : y.name = "<init>") (hdecl : (T k).1 = y.cls) (hn : narrow (ty k) v = v) (hfit : fits (ty k) v = true) (hlen : k < fs.length) (hd : decode cc pc = .ok (.putfield idx, 3)) (kk : Z g0 d y cc nL ret tb p l e R s m args below meth c Q cells slots (zu G a (zob ci (fs.set k v))) L st (pc + 3)) : Z g0 d y cc nL ret tb p l e R s m args below meth c Q cells slots G L (v :: .ref a :: st) pc := by
  intro hc H locs ls hP hS hl
  obtain ⟨j, hj⟩ := hP.in hG
  exact va_putF hc.x hc.b (hc.lays hz args) (fun _ h => h) ty hz.2.2.1 hz.2.2.2 hc.own hc.K hP.P hP.D hS j hj hz.1 k hk (hc.w hq rfl args) (fun _ h => h) hfin (hc.nm.trans hin) hdecl (hz.2.2.1 k hk) hn hfit hlen hd (fun H1 locs1 hP1 hD1 hS1 => kk hc H1 locs1 ls (hP.set hj hP1) hS1 hl)
theorem z_iald {a n : Nat} {f : Nat → Int32} {i : Int32} (hG : G a = some (zI d n f)) (hin : vp_in i n) (hd : decode cc pc = .ok (.iaload, 1)) (k : Z g0 d y cc nL ret tb p l e R s m args below meth c Q cells slots G L (.int (f i.toNatClampNeg) :: st) (pc + 1)) : Z g0 d y cc nL ret tb p l e R s m args below meth c Q cells slots G L (.int i :: .ref a :: st) pc := by
  intro hc H locs ls hP hS hl
  obtain ⟨j, hj⟩ := hP.in hG
  exact va_iald hc.x hc.b hc.K hP.P j 0 hj rfl hin hd (k hc H locs ls hP hS hl)
theorem z_dald {a n : Nat} {f : Nat → UInt64} {i : Int32} (hG : G a = some (zDb d n f)) (hin : vp_in i n) (hd : decode cc pc = .ok (.daload, 1)) (k : Z g0 d y cc nL ret tb p l e R s m args below meth c Q cells slots G L (.double (f i.toNatClampNeg) :: st) (pc + 1)) : Z g0 d y cc nL ret tb p l e R s m args below meth c Q cells slots G L (.int i :: .ref a :: st) pc := by
  intro hc H locs ls hP hS hl
  obtain ⟨j, hj⟩ := hP.in hG
  exact va_dald hc.x hc.b hc.K hP.P j 1 hj rfl hin hd (k hc H locs ls hP hS hl)
theorem z_bald {a n : Nat} {f : Nat → Int32} {i : Int32} (hG : G a = some (zBy d n f)) (hin : vp_in i n) (hd : decode cc pc = .ok (.baload, 1)) (k : Z g0 d y cc nL ret tb p l e R s m args below meth c Q cells slots G L (.int (f i.toNatClampNeg) :: st) (pc + 1)) : Z g0 d y cc nL ret tb p l e R s m args below meth c Q cells slots G L (.int i :: .ref a :: st) pc := by
  intro hc H locs ls hP hS hl
  obtain ⟨j, hj⟩ := hP.in hG
  exact va_bald hc.x hc.b hc.K hP.P j 2 hj rfl hin hd (k hc H locs ls hP hS hl)
theorem z_iast {a n : Nat} {f : Nat → Int32} {i : Int32} {x : Int32} (hG : G a = some (zI d n f)) (hin : vp_in i n) (hd : decode cc pc = .ok (.iastore, 1)) (k : Z g0 d y cc nL ret tb p l e R s m args below meth c Q cells slots (zu G a (zI d n (upd f i.toNatClampNeg x))) L st (pc + 1)) : Z g0 d y cc nL ret tb p l e R s m args below meth c Q cells slots G L (.int x :: .int i :: .ref a :: st) pc := by
  intro hc H locs ls hP hS hl
  obtain ⟨j, hj⟩ := hP.in hG
  exact va_iast hc.x hc.b hc.K hP.P hP.D hS j 0 hj rfl hin hd (fun H1 locs1 hP1 hD1 hS1 => k hc H1 locs1 ls (hP.set hj hP1) hS1 hl)
theorem z_dast {a n : Nat} {f : Nat → UInt64} {i : Int32} {x : UInt64} (hG : G a = some (zDb d n f)) (hin : vp_in i n) (hd : decode cc pc = .ok (.dastore, 1)) (k : Z g0 d y cc nL ret tb p l e R s m args below meth c Q cells slots (zu G a (zDb d n (vf_upd f i.toNatClampNeg x))) L st (pc + 1)) : Z g0 d y cc nL ret tb p l e R s m args below meth c Q cells slots G L (.double x :: .int i :: .ref a :: st) pc := by
  intro hc H locs ls hP hS hl
  obtain ⟨j, hj⟩ := hP.in hG
  exact va_dast hc.x hc.b hc.K hP.P hP.D hS j 1 hj rfl hin hd (fun H1 locs1 hP1 hD1 hS1 => k hc H1 locs1 ls (hP.set hj hP1) hS1 hl)
theorem z_bast {a n : Nat} {f : Nat → Int32} {i : Int32} {x : Int32} (hG : G a = some (zBy d n f)) (hin : vp_in i n) (hd : decode cc pc = .ok (.bastore, 1)) (k : Z g0 d y cc nL ret tb p l e R s m args below meth c Q cells slots (zu G a (zBy d n (upd f i.toNatClampNeg (vp_nar .byte x)))) L st (pc + 1)) : Z g0 d y cc nL ret tb p l e R s m args below meth c Q cells slots G L (.int x :: .int i :: .ref a :: st) pc := by
  intro hc H locs ls hP hS hl
  obtain ⟨j, hj⟩ := hP.in hG
  exact va_bast hc.x hc.b hc.K hP.P hP.D hS j 2 hj rfl hin hd (fun H1 locs1 hP1 hD1 hS1 => k hc H1 locs1 ls (hP.set hj hP1) hS1 hl)
theorem z_aald {a n : Nat} {f : Nat → Option Nat} {i : Int32} (hG : G a = some (zO d n f)) (hin : vp_in i n) (hd : decode cc pc = .ok (.aaload, 1)) (k : Z g0 d y cc nL ret tb p l e R s m args below meth c Q cells slots G L (va_rf (f i.toNatClampNeg) :: st) (pc + 1)) : Z g0 d y cc nL ret tb p l e R s m args below meth c Q cells slots G L (.int i :: .ref a :: st) pc := by
  intro hc H locs ls hP hS hl
  obtain ⟨j, hj⟩ := hP.in hG
  exact va_aldq hc.x hc.b hc.K hP.P j 3 hj rfl hin hd (k hc H locs ls hP hS hl)
theorem z_alenI {a n : Nat} {f : Nat → Int32} (hG : G a = some (zI d n f)) (hd : decode cc pc = .ok (.arraylength, 1)) (k : Z g0 d y cc nL ret tb p l e R s m args below meth c Q cells slots G L (.int (Int32.ofNat n) :: st) (pc + 1)) : Z g0 d y cc nL ret tb p l e R s m args below meth c Q cells slots G L (.ref a :: st) pc := by
  intro hc H locs ls hP hS hl
  obtain ⟨j, hj⟩ := hP.in hG
  exact va_alen hc.x hc.b hc.K hP.P j 0 hj rfl rfl hd (k hc H locs ls hP hS hl)
theorem z_alenD {a n : Nat} {f : Nat → UInt64} (hG : G a = some (zDb d n f)) (hd : decode cc pc = .ok (.arraylength, 1)) (k : Z g0 d y cc nL ret tb p l e R s m args below meth c Q cells slots G L (.int (Int32.ofNat n) :: st) (pc + 1)) : Z g0 d y cc nL ret tb p l e R s m args below meth c Q cells slots G L (.ref a :: st) pc := by
  intro hc H locs ls hP hS hl
  obtain ⟨j, hj⟩ := hP.in hG
  exact va_alen hc.x hc.b hc.K hP.P j 1 hj rfl rfl hd (k hc H locs ls hP hS hl)
theorem z_alenB {a n : Nat} {f : Nat → Int32} (hG : G a = some (zBy d n f)) (hd : decode cc pc = .ok (.arraylength, 1)) (k : Z g0 d y cc nL ret tb p l e R s m args below meth c Q cells slots G L (.int (Int32.ofNat n) :: st) (pc + 1)) : Z g0 d y cc nL ret tb p l e R s m args below meth c Q cells slots G L (.ref a :: st) pc := by
  intro hc H locs ls hP hS hl
  obtain ⟨j, hj⟩ := hP.in hG
  exact va_alen hc.x hc.b hc.K hP.P j 2 hj rfl rfl hd (k hc H locs ls hP hS hl)
theorem z_alenO {a n : Nat} {f : Nat → Option Nat} (hG : G a = some (zO d n f)) (hd : decode cc pc = .ok (.arraylength, 1)) (k : Z g0 d y cc nL ret tb p l e R s m args below meth c Q cells slots G L (.int (Int32.ofNat n) :: st) (pc + 1)) : Z g0 d y cc nL ret tb p l e R s m args below meth c Q cells slots G L (.ref a :: st) pc := by
  intro hc H locs ls hP hS hl
  obtain ⟨j, hj⟩ := hP.in hG
  exact va_alen hc.x hc.b hc.K hP.P j 3 hj rfl rfl hd (k hc H locs ls hP hS hl)
theorem z_iret {post : Option Value → zG → Prop} {px : String → zG → Prop} {mc ms : Nat} {v : Int32} (hr : ret = some .int) (hp : post (some (.int v)) G) (h1 : cells ≤ mc) (h2 : slots ≤ ms) (hd : decode cc pc = .ok (.ireturn, 1)) : Z g0 d y cc nL ret tb p l e R s m args below meth c (vx_MQ below (zQc g0 d post) (zXc g0 d px) args s mc ms (zA g0)) cells slots G L [.int v] pc :=
  fun hc H locs ls hP hS hl => W.widen h1 h2 (vx_ret (W.iret hc.x hc.b (hc.r.trans hr) (fun t ht hW => ⟨⟨_, G, rfl, hp, by rw [ht]; exact hP⟩, hS.F ht⟩) hS.2.2 hd hc.locks))
theorem z_zret {post : Option Value → zG → Prop} {px : String → zG → Prop} {mc ms : Nat} {v : Int32} (hr : ret = some .boolean) (hn : narrow .boolean (.int v) = .int v) (hp : post (some (.int v)) G) (h1 : cells ≤ mc) (h2 : slots ≤ ms) (hd : decode cc pc = .ok (.ireturn, 1)) : Z g0 d y cc nL ret tb p l e R s m args below meth c (vx_MQ below (zQc g0 d post) (zXc g0 d px) args s mc ms (zA g0)) cells slots G L [.int v] pc :=
  fun hc H locs ls hP hS hl => W.widen h1 h2 (vx_ret (W.zret hc.x hc.b (hc.r.trans hr) hn (fun t ht hW => ⟨⟨_, G, rfl, hp, by rw [ht]; exact hP⟩, hS.F ht⟩) hS.2.2 hd hc.locks))
theorem z_lret {post : Option Value → zG → Prop} {px : String → zG → Prop} {mc ms : Nat} {v : Int64} (hr : ret = some .long) (hp : post (some (.long v)) G) (h1 : cells ≤ mc) (h2 : slots ≤ ms) (hd : decode cc pc = .ok (.lreturn, 1)) : Z g0 d y cc nL ret tb p l e R s m args below meth c (vx_MQ below (zQc g0 d post) (zXc g0 d px) args s mc ms (zA g0)) cells slots G L [.long v] pc :=
  fun hc H locs ls hP hS hl => W.widen h1 h2 (vx_ret (W.lret hc.x hc.b (hc.r.trans hr) (fun t ht hW => ⟨⟨_, G, rfl, hp, by rw [ht]; exact hP⟩, hS.F ht⟩) hS.2.2 hd hc.locks))
theorem z_dret {post : Option Value → zG → Prop} {px : String → zG → Prop} {mc ms : Nat} {v : UInt64} (hr : ret = some .double) (hp : post (some (.double v)) G) (h1 : cells ≤ mc) (h2 : slots ≤ ms) (hd : decode cc pc = .ok (.dreturn, 1)) : Z g0 d y cc nL ret tb p l e R s m args below meth c (vx_MQ below (zQc g0 d post) (zXc g0 d px) args s mc ms (zA g0)) cells slots G L [.double v] pc :=
  fun hc H locs ls hP hS hl => W.widen h1 h2 (vx_ret (W.dret hc.x hc.b (hc.r.trans hr) (fun t ht hW => ⟨⟨_, G, rfl, hp, by rw [ht]; exact hP⟩, hS.F ht⟩) hS.2.2 hd hc.locks))
theorem z_vret {post : Option Value → zG → Prop} {px : String → zG → Prop} {mc ms : Nat}  (hr : ret = none) (hp : post none G) (h1 : cells ≤ mc) (h2 : slots ≤ ms) (hd : decode cc pc = .ok (.return_, 1)) : Z g0 d y cc nL ret tb p l e R s m args below meth c (vx_MQ below (zQc g0 d post) (zXc g0 d px) args s mc ms (zA g0)) cells slots G L [] pc :=
  fun hc H locs ls hP hS hl => W.widen h1 h2 (vx_ret (W.vret hc.x hc.b (hc.r.trans hr) (fun t ht hW => ⟨⟨_, G, rfl, hp, by rw [ht]; exact hP⟩, hS.F ht⟩) hS.2.2 hd hc.locks))
theorem z_aret {post : Option Value → zG → Prop} {px : String → zG → Prop} {mc ms : Nat} {v : Value} {rt : FieldType} (hr : ret = some rt) (hrt : (∃ n, rt = .object n) ∨ ∃ t, rt = .array t) (hv : v = .null ∨ ∃ a, v = .ref a) (hp : post (some v) G) (h1 : cells ≤ mc) (h2 : slots ≤ ms) (hd : decode cc pc = .ok (.areturn, 1)) : Z g0 d y cc nL ret tb p l e R s m args below meth c (vx_MQ below (zQc g0 d post) (zXc g0 d px) args s mc ms (zA g0)) cells slots G L [v] pc :=
  fun hc H locs ls hP hS hl => W.widen h1 h2 (vx_ret (W.aret hc.x hc.b (hc.r.trans hr) hrt hv (fun t ht hW => ⟨⟨_, G, rfl, hp, by rw [ht]; exact hP⟩, hS.F ht⟩) hS.2.2 hd hc.locks))
end ZROWS
section ZENTRY
variable {g0 : State} {d : zD} {y : MethodName} {cc : ByteArray} {nL : Nat} {ret : Option FieldType} {tb : List ExceptionTableEntry} {p : Program} {l : Launch} {e : Env} {R : Room} {s : State} {m : MethodId} {args : Array Value} {below : List Frame} {meth : Method} {c : Code} {Q : State → Prop} {cells slots : Nat} {G : zG} {L L' : List (Nat × Value)} {st : List Value} {pc : Nat}
theorem z_entry {post : Option Value → zG → Prop} {px : String → zG → Prop} {f mc ms : Nat} {av : List Value} {a0 : Array Value} (hs0 : zS0 d a0 g0) (hst : l.stackTraces = false) (hy : plainName y.cls = true) (hlen : (lg_sl av).length ≤ nL)
  (body : ∀ (p : Program) (e : Env) (s : State) (m : MethodId) (args : Array Value) (below : List Frame) (meth : Method) (c : Code), Z g0 d y cc nL ret [] p l e (zR f mc ms) s m args below meth c (vx_MQ below (zQc g0 d post) (zXc g0 d px) args s mc ms (zA g0)) 0 0 G (lv_args 0 av) [] 0) : zMet g0 d l y cc nL ret f mc ms av G post px := by
  refine vx_ofW (cc := cc) (maxL := nL) (ret := ret) hy rfl ?_
  intro p e s m args below meth c s₁ B hml hT hv
  obtain ⟨rfl, hW, hO, hP⟩ := hv
  have hl' := lv_entry av (n := nL) hlen
  rw [lg_entry_eq]
  generalize (lg_sl av ++ List.replicate (nL - (lg_sl av).length) Slot.unset).toArray = ls at hl' ⊢
  exact body p e s m av.toArray below meth c ⟨⟨a0, hs0⟩, hst, B.exec, B.bytes, hml, findClass_of_methodNamed B.named, hW, hO, B.notSynchronized, B.returns, (name_of_methodNamed B.named B.method).1, List.eq_nil_iff_forall_not_mem.mpr hT⟩ _ _ ls hP va_S.rf hl'
/-- the callee's frame: what a call hands in -/
theorem z_blind {av : List Value} : FrameBlind (va_Pc av (zB g0 d G)) := fun a U g mk q => by
  obtain ⟨q0, q1, q2, q3⟩ := q
  exact ⟨q0, q1, q2, q3⟩
theorem z_pre {av : List Value} {H : Heap} {locs : List Loc} (hc : zCx g0 d y cc nL ret tb p l s m meth c) (hP : zPic g0 d G H) (hS : va_S (zA g0) s.heap H locs) : ∀ U : State, U.heap = H → s.WarmedH U.vm → va_Pc av (zB g0 d G) av.toArray U :=
  fun U hU hW => ⟨rfl, State.WarmedH.trans hc.warm hW, by rw [hU]; exact hc.old.s hS, by rw [hU]; exact hP⟩
theorem z_cb {y2 : MethodName} {cc2 : ByteArray} {nL2 n2 idx : Nat} {ret2 : Option FieldType} {f2 mc2 ms2 : Nat} (hc : zCx g0 d y cc nL ret tb p l s m meth c) (hy : zY y2 cc2 nL2 ret2 n2) (hq : Cond.methodLink y.cls idx y2 ∈ lw_tbl) (hR : f2 + 1 ≤ R.frames ∧ 8 + (nL2 + 11) + 64 * f2 ≤ R.locals) : CallB R s args y.cls idx y2 cc2 nL2 ret2 [Cond.code y2 cc2 nL2 ret2] (zR f2 mc2 ms2) mc2 ms2 n2 := by
  obtain ⟨h1, h2, h3, h4⟩ := hy
  refine ⟨rfl, rfl, hR.1, hR.2, fun w hw a' U hW => ?_, List.mem_cons_self, hc.w h1 rfl args, hc.w h2 rfl args, h3, fun sig h => ?_, hc.w hq rfl args⟩
  · rw [List.mem_singleton.mp hw]
    obtain ⟨⟨a0, h0, -⟩, -⟩ := id hc
    exact word_at (State.WarmedH.trans hc.warm hW) (good_of_word rfl) (h0 _ h1)
  · rw [h] at h4
    exact (Option.some.inj h4).symm
/-- behind a call -/
theorem z_back {H : Heap} {locs : List Loc} {ls : Array Slot} {mc ms : Nat} {st0 rest : List Value} {a : Array Value} {post : Option Value → zG → Prop} {px : String → zG → Prop} (hc : zCx g0 d y cc nL ret tb p l s m meth c) (hS : va_S (zA g0) s.heap H locs) (hl : lv_has ls nL L)
  (hr : vx_Run p l e R s m args below meth c H locs cells slots mc ms (F0 m pc ls st0) rest (zQc g0 d post a) (zXc g0 d px) (zA g0))
  (kx : ∀ (E : String) (G' : zG), px E G' → ZX g0 d y cc nL ret tb p l e R s m args below meth c Q (cells + mc) (slots + ms) G' L rest pc E)
  (kk : ∀ (r : Option Value) (G' : zG), post r G' → Z g0 d y cc nL ret tb p l e R s m args below meth c Q (cells + mc) (slots + ms) G' L (r.toList ++ rest) (pc + 3)) : W p l e R s m args below meth c H locs cells slots Q (F0 m pc ls st0) := by
  intro T hT X
  rcases hr T hT X with ⟨v, st₀, t, T', L9, h0, X', hL, e1, e2, ⟨⟨r, G', hv, hp, hP'⟩, hF⟩, st⟩ | ⟨q, st₀, t, T', L9, E, ce, h0, X', hL, e1, e2, ⟨⟨G', hp, hP'⟩, hF⟩, hce, hcv, hcl, st⟩
  · cases hv
    obtain ⟨k1, k2, k3⟩ := vx_keep h0 e1 hS (fun _ _ h => h) (fun _ h => h) hL hF
    obtain ⟨t2, a1, b1⟩ := kk v G' hp hc T'.heap (locs ++ L9) ls (by rw [e1]; exact hP') k3 hl T' rfl X'
    exact ⟨t2, st t2 a1, b1⟩
  · obtain ⟨k1, k2, k3⟩ := vx_keep h0 e1 hS (fun _ _ h => h) (fun _ h => h) hL hF
    obtain ⟨t2, a1, b1⟩ := kx E G' hp hc T'.heap (locs ++ L9) ls q ce (by rw [e1]; exact hP') k3 hl (by rw [e1]; exact hce) hcv hcl T' rfl X'
    exact ⟨t2, st.trans a1, b1⟩
theorem z_back5 {H : Heap} {locs : List Loc} {ls : Array Slot} {mc ms : Nat} {st0 rest : List Value} {a : Array Value} {post : Option Value → zG → Prop} {px : String → zG → Prop} (hc : zCx g0 d y cc nL ret tb p l s m meth c) (hS : va_S (zA g0) s.heap H locs) (hl : lv_has ls nL L)
  (hr : vx_Run5 p l e R s m args below meth c H locs cells slots mc ms (F0 m pc ls st0) rest (zQc g0 d post a) (zXc g0 d px) (zA g0))
  (kx : ∀ (E : String) (G' : zG), px E G' → ZX g0 d y cc nL ret tb p l e R s m args below meth c Q (cells + mc) (slots + ms) G' L rest pc E)
  (kk : ∀ (r : Option Value) (G' : zG), post r G' → Z g0 d y cc nL ret tb p l e R s m args below meth c Q (cells + mc) (slots + ms) G' L (r.toList ++ rest) (pc + 5)) : W p l e R s m args below meth c H locs cells slots Q (F0 m pc ls st0) := by
  intro T hT X
  rcases hr T hT X with ⟨v, st₀, t, T', L9, h0, X', hL, e1, e2, ⟨⟨r, G', hv, hp, hP'⟩, hF⟩, st⟩ | ⟨q, st₀, t, T', L9, E, ce, h0, X', hL, e1, e2, ⟨⟨G', hp, hP'⟩, hF⟩, hce, hcv, hcl, st⟩
  · cases hv
    obtain ⟨k1, k2, k3⟩ := vx_keep h0 e1 hS (fun _ _ h => h) (fun _ h => h) hL hF
    obtain ⟨t2, a1, b1⟩ := kk v G' hp hc T'.heap (locs ++ L9) ls (by rw [e1]; exact hP') k3 hl T' rfl X'
    exact ⟨t2, st t2 a1, b1⟩
  · obtain ⟨k1, k2, k3⟩ := vx_keep h0 e1 hS (fun _ _ h => h) (fun _ h => h) hL hF
    obtain ⟨t2, a1, b1⟩ := kx E G' hp hc T'.heap (locs ++ L9) ls q ce (by rw [e1]; exact hP') k3 hl (by rw [e1]; exact hce) hcv hcl T' rfl X'
    exact ⟨t2, st.trans a1, b1⟩
theorem z_recv {H : Heap} {ci a : Nat} {C : String} {T : u_T} {N : Nat} {ty : Nat → FieldType} {fs : List Value} (hc : zCx g0 d y cc nL ret tb p l s m meth c) (hP : zPic g0 d G H) (hz : zCl ci C T N ty) (hG : G a = some (zob ci fs)) : ∃ cell : Cell, H[a]? = some cell ∧ cell.vm.isStatics = false ∧ s.vm.findClass C = some cell.cls := by
  obtain ⟨j, hj⟩ := hP.in hG
  exact va_recv hc.K hP.P hz.1 hj
theorem z_callS {y2 : MethodName} {cc2 : ByteArray} {nL2 idx : Nat} {ret2 : Option FieldType} {f2 mc2 ms2 : Nat} {av rest : List Value} {post : Option Value → zG → Prop} {px : String → zG → Prop} (hM : zMet g0 d l y2 cc2 nL2 ret2 f2 mc2 ms2 av G post px) (hy : zY y2 cc2 nL2 ret2 av.length) (hq : Cond.methodLink y.cls idx y2 ∈ lw_tbl) (hstt : Cond.static y2 ∈ lw_tbl) (hd : decode cc pc = .ok (.invokestatic idx, 3)) (hst : st = av.reverse ++ rest) (hrest : (rest.map fun v => v.category).sum ≤ 8) (hf : cells + mc2 ≤ R.cells ∧ slots + ms2 ≤ R.slots) (hR : f2 + 1 ≤ R.frames ∧ 8 + (nL2 + 11) + 64 * f2 ≤ R.locals)
  (kx : ∀ (E : String) (G' : zG), px E G' → ZX g0 d y cc nL ret tb p l e R s m args below meth c Q (cells + mc2) (slots + ms2) G' L rest pc E)
  (kk : ∀ (r : Option Value) (G' : zG), post r G' → Z g0 d y cc nL ret tb p l e R s m args below meth c Q (cells + mc2) (slots + ms2) G' L (r.toList ++ rest) (pc + 3)) : Z g0 d y cc nL ret tb p l e R s m args below meth c Q cells slots G L st pc := by
  intro hc H locs ls hP hS hl
  exact z_back hc hS hl (vx_runS (As := av) (rest := rest) (n := av.length) ⟨hc.x, hc.b, hc.ml, hc.own, fun w h => nomatch (h : w ∈ [])⟩ hM ⟨z_cb hc hy hq hR, hc.w hstt rfl args⟩ ⟨z_blind, z_pre hc hP hS⟩ rfl rfl hl.1 hst (lv_room hrest) hd hf) kx kk
theorem z_callV {y2 : MethodName} {cc2 : ByteArray} {nL2 idx : Nat} {ret2 : Option FieldType} {f2 mc2 ms2 : Nat} {av rest : List Value} {post : Option Value → zG → Prop} {px : String → zG → Prop} {ci a : Nat} {T : u_T} {N : Nat} {ty : Nat → FieldType} {fs : List Value} (hM : zMet g0 d l y2 cc2 nL2 ret2 f2 mc2 ms2 (.ref a :: av) G post px) (hy : zY y2 cc2 nL2 ret2 av.length) (hq : Cond.methodLink y.cls idx y2 ∈ lw_tbl) (hi : Cond.instanceMethod y2 ∈ lw_tbl) (hv : Cond.selects y2.cls y2 y2 ∈ lw_tbl) (hz : zCl ci y2.cls T N ty) (hG : G a = some (zob ci fs)) (hd : decode cc pc = .ok (.invokevirtual idx, 3)) (hst : st = av.reverse ++ .ref a :: rest) (hrest : (rest.map fun v => v.category).sum ≤ 8) (hf : cells + mc2 ≤ R.cells ∧ slots + ms2 ≤ R.slots) (hR : f2 + 1 ≤ R.frames ∧ 8 + (nL2 + 11) + 64 * f2 ≤ R.locals)
  (kx : ∀ (E : String) (G' : zG), px E G' → ZX g0 d y cc nL ret tb p l e R s m args below meth c Q (cells + mc2) (slots + ms2) G' L rest pc E)
  (kk : ∀ (r : Option Value) (G' : zG), post r G' → Z g0 d y cc nL ret tb p l e R s m args below meth c Q (cells + mc2) (slots + ms2) G' L (r.toList ++ rest) (pc + 3)) : Z g0 d y cc nL ret tb p l e R s m args below meth c Q cells slots G L st pc := by
  intro hc H locs ls hP hS hl
  exact z_back hc hS hl (vx_runV (As := av) (rest := rest) (n := av.length) (C := y2.cls) ⟨hc.x, hc.b, hc.ml, hc.own, fun w h => nomatch (h : w ∈ [])⟩ hM ⟨z_cb hc hy hq hR, hc.w hi rfl args, hc.w hv rfl args⟩ ⟨z_blind, z_recv hc hP hz hG, z_pre hc hP hS⟩ rfl rfl hl.1 hst (lv_room hrest) hd hf) kx kk
theorem z_callI {y2 : MethodName} {cc2 : ByteArray} {nL2 idx : Nat} {f2 mc2 ms2 : Nat} {av rest : List Value} {post : Option Value → zG → Prop} {px : String → zG → Prop} {a : Nat} (hM : zMet g0 d l y2 cc2 nL2 none f2 mc2 ms2 (.ref a :: av) G post px) (hy : zY y2 cc2 nL2 none av.length) (hin : y2.name = "<init>") (hq : Cond.methodLink y.cls idx y2 ∈ lw_tbl) (hi : Cond.instanceMethod y2 ∈ lw_tbl) (hd : decode cc pc = .ok (.invokespecial idx, 3)) (hst : st = av.reverse ++ .ref a :: rest) (hrest : (rest.map fun v => v.category).sum ≤ 8) (hf : cells + mc2 ≤ R.cells ∧ slots + ms2 ≤ R.slots) (hR : f2 + 1 ≤ R.frames ∧ 8 + (nL2 + 11) + 64 * f2 ≤ R.locals)
  (kx : ∀ (E : String) (G' : zG), px E G' → ZX g0 d y cc nL ret tb p l e R s m args below meth c Q (cells + mc2) (slots + ms2) G' L rest pc E)
  (kk : ∀ (r : Option Value) (G' : zG), post r G' → Z g0 d y cc nL ret tb p l e R s m args below meth c Q (cells + mc2) (slots + ms2) G' L (r.toList ++ rest) (pc + 3)) : Z g0 d y cc nL ret tb p l e R s m args below meth c Q cells slots G L st pc := by
  intro hc H locs ls hP hS hl
  exact z_back hc hS hl (vx_runI (As := av) (rest := rest) (n := av.length) ⟨hc.x, hc.b, hc.ml, hc.own, fun w h => nomatch (h : w ∈ [])⟩ hM ⟨z_cb hc hy hq hR, hin, hc.w hi rfl args⟩ ⟨z_blind, z_pre hc hP hS⟩ rfl rfl hl.1 hst (lv_room hrest) hd hf) kx kk
/-- Object's constructor -/
theorem z_objInit {a idx : Nat} (hq : Cond.methodLink y.cls idx objectInit ∈ lw_tbl) (hi : Cond.instanceMethod objectInit ∈ lw_tbl) (hcd : Cond.code objectInit ⟨#[0xb1]⟩ 1 none ∈ lw_tbl) (hd : decode cc pc = .ok (.invokespecial idx, 3)) (hrest : (st.map fun v => v.category).sum ≤ 8) (hR : 1 ≤ R.frames ∧ 20 ≤ R.locals) (k : Z g0 d y cc nL ret tb p l e R s m args below meth c Q cells slots G L st (pc + 3)) : Z g0 d y cc nL ret tb p l e R s m args below meth c Q cells slots G L (.ref a :: st) pc := by
  intro hc H locs ls hP hS hl
  exact W.objInit hc.x hc.b hc.own (hc.w hq rfl args) (hc.w hi rfl args) (hc.w hcd rfl args) rfl (by rw [hc.ml]; exact hl.1) rfl hd hR.1 (Nat.le_trans (Nat.add_le_add_right (show 2 * 0 + (st.map fun v => v.category).sum ≤ 8 by omega) 12) hR.2) (k hc H locs ls hP hS hl)
theorem z_new {ci idx : Nat} {C : String} {T : u_T} {N : Nat} {ty : Nat → FieldType} (hz : zCl ci C T N ty) {fs : List Value} (hq : Cond.classLink y.cls idx C ∈ lw_tbl) (ho : Cond.instantiable C N ∈ lw_tbl) (hn : Cond.initialized C ∈ lw_tbl) (hfs : ∀ j, j < N → defaultValue (ty j) = vp_V fs j) (hf : cells + 1 ≤ R.cells ∧ slots + N ≤ R.slots) (hd : decode cc pc = .ok (.new idx, 3))
  (k : ∀ a : Nat, G a = none → g0.heap.size ≤ a → Z g0 d y cc nL ret tb p l e R s m args below meth c Q (cells + 1) (slots + N) (zu G a (zob ci fs)) L (.ref a :: st) (pc + 3)) : Z g0 d y cc nL ret tb p l e R s m args below meth c Q cells slots G L st pc := by
  intro hc H locs ls hP hS hl
  have hn9 : ∀ v, G H.size = some v → False := fun v h => absurd (hP.lt h) (Nat.lt_irrefl _)
  refine W.newcK hc.x hc.b hc.own (hc.w hq rfl args) (hc.w ho rfl args) (hc.w hn rfl args) rfl hd hf.1 hf.2 (hc.K.1 ci _ hz.1).2.1 rfl fun H1 kC hkC e1 z1 o1 => ?_
  have hG0 : G H.size = none := by
    cases h : G H.size with
    | none => rfl
    | some v => exact (hn9 v h).elim
  have hle : g0.heap.size ≤ H.size := (hc.old.s hS).1
  refine k H.size hG0 hle hc H1 locs ls ?_ ⟨Nat.le_trans hS.1 (by omega), fun x h1 h2 => (o1 x (Nat.lt_of_lt_of_le h1 hS.1)).trans (hS.2.1 x h1 h2), hS.2.2⟩ hl
  intro a v ha
  by_cases he : a = H.size
  · subst he
    rw [zu_s] at ha
    cases ha
    exact ⟨hle, _, hz.1, (u_born ty (hc.lays hz args) (fun _ h => h) (hc.K.1 ci _ hz.1) hkC e1 hz.2.2.1).to hfs⟩
  · rw [zu_n he] at ha
    exact ⟨(hP a v ha).1, (hP a v ha).2.kept (o1 a (hP.lt ha))⟩
theorem z_newaI {i : Int32} (N : Nat) (hA : Cond.arrayClass (.int) ∈ lw_tbl) (hn : ¬ i < 0) (hN : i.toNatClampNeg = N) (hb : N * componentBytes (.int) ≤ 536870912) (hf : cells + 1 ≤ R.cells ∧ slots + N ≤ R.slots) (hd : decode cc pc = .ok (.newarray .int, 2))
  (k : ∀ a : Nat, G a = none → g0.heap.size ≤ a → Z g0 d y cc nL ret tb p l e R s m args below meth c Q (cells + 1) (slots + N) (zu G a (zI d N (fun _ => 0))) L (.ref a :: st) (pc + 2)) : Z g0 d y cc nL ret tb p l e R s m args below meth c Q cells slots G L (.int i :: st) pc := by
  intro hc H locs ls hP hS hl
  refine va_newaK (atype := .int) hc.x hc.b (hc.w hA rfl args) rfl hd rfl hn hN hb hf.1 hf.2 rfl fun H1 cA e1 z1 o1 hAr hNm => ?_
  have hG0 : G H.size = none := by
    cases h : G H.size with
    | none => rfl
    | some v => exact absurd (hP.lt h) (Nat.lt_irrefl _)
  have hle : g0.heap.size ≤ H.size := (hc.old.s hS).1
  have hcA : cA = d.2.1 0 := Option.some.inj (hNm.symm.trans (hc.K.2 0 _ rfl).2)
  subst hcA
  refine k H.size hG0 hle hc H1 locs ls ?_ ⟨Nat.le_trans hS.1 (by omega), fun x h1 h2 => (o1 x (Nat.lt_of_lt_of_le h1 hS.1)).trans (hS.2.1 x h1 h2), hS.2.2⟩ hl
  intro a v ha
  by_cases he : a = H.size
  · subst he
    rw [zu_s] at ha
    cases ha
    exact ⟨hle, e1⟩
  · rw [zu_n he] at ha
    exact ⟨(hP a v ha).1, (hP a v ha).2.kept (o1 a (hP.lt ha))⟩
theorem z_newaD {i : Int32} (N : Nat) (hA : Cond.arrayClass (.double) ∈ lw_tbl) (hn : ¬ i < 0) (hN : i.toNatClampNeg = N) (hb : N * componentBytes (.double) ≤ 536870912) (hf : cells + 1 ≤ R.cells ∧ slots + N ≤ R.slots) (hd : decode cc pc = .ok (.newarray .double, 2))
  (k : ∀ a : Nat, G a = none → g0.heap.size ≤ a → Z g0 d y cc nL ret tb p l e R s m args below meth c Q (cells + 1) (slots + N) (zu G a (zDb d N (fun _ => 0))) L (.ref a :: st) (pc + 2)) : Z g0 d y cc nL ret tb p l e R s m args below meth c Q cells slots G L (.int i :: st) pc := by
  intro hc H locs ls hP hS hl
  refine va_newaK (atype := .double) hc.x hc.b (hc.w hA rfl args) rfl hd rfl hn hN hb hf.1 hf.2 rfl fun H1 cA e1 z1 o1 hAr hNm => ?_
  have hG0 : G H.size = none := by
    cases h : G H.size with
    | none => rfl
    | some v => exact absurd (hP.lt h) (Nat.lt_irrefl _)
  have hle : g0.heap.size ≤ H.size := (hc.old.s hS).1
  have hcA : cA = d.2.1 1 := Option.some.inj (hNm.symm.trans (hc.K.2 1 _ rfl).2)
  subst hcA
  refine k H.size hG0 hle hc H1 locs ls ?_ ⟨Nat.le_trans hS.1 (by omega), fun x h1 h2 => (o1 x (Nat.lt_of_lt_of_le h1 hS.1)).trans (hS.2.1 x h1 h2), hS.2.2⟩ hl
  intro a v ha
  by_cases he : a = H.size
  · subst he
    rw [zu_s] at ha
    cases ha
    exact ⟨hle, e1⟩
  · rw [zu_n he] at ha
    exact ⟨(hP a v ha).1, (hP a v ha).2.kept (o1 a (hP.lt ha))⟩
theorem z_newaB {i : Int32} (N : Nat) (hA : Cond.arrayClass (.byte) ∈ lw_tbl) (hn : ¬ i < 0) (hN : i.toNatClampNeg = N) (hb : N * componentBytes (.byte) ≤ 536870912) (hf : cells + 1 ≤ R.cells ∧ slots + N ≤ R.slots) (hd : decode cc pc = .ok (.newarray .byte, 2))
  (k : ∀ a : Nat, G a = none → g0.heap.size ≤ a → Z g0 d y cc nL ret tb p l e R s m args below meth c Q (cells + 1) (slots + N) (zu G a (zBy d N (fun _ => 0))) L (.ref a :: st) (pc + 2)) : Z g0 d y cc nL ret tb p l e R s m args below meth c Q cells slots G L (.int i :: st) pc := by
  intro hc H locs ls hP hS hl
  refine va_newaK (atype := .byte) hc.x hc.b (hc.w hA rfl args) rfl hd rfl hn hN hb hf.1 hf.2 rfl fun H1 cA e1 z1 o1 hAr hNm => ?_
  have hG0 : G H.size = none := by
    cases h : G H.size with
    | none => rfl
    | some v => exact absurd (hP.lt h) (Nat.lt_irrefl _)
  have hle : g0.heap.size ≤ H.size := (hc.old.s hS).1
  have hcA : cA = d.2.1 2 := Option.some.inj (hNm.symm.trans (hc.K.2 2 _ rfl).2)
  subst hcA
  refine k H.size hG0 hle hc H1 locs ls ?_ ⟨Nat.le_trans hS.1 (by omega), fun x h1 h2 => (o1 x (Nat.lt_of_lt_of_le h1 hS.1)).trans (hS.2.1 x h1 h2), hS.2.2⟩ hl
  intro a v ha
  by_cases he : a = H.size
  · subst he
    rw [zu_s] at ha
    cases ha
    exact ⟨hle, e1⟩
  · rw [zu_n he] at ha
    exact ⟨(hP a v ha).1, (hP a v ha).2.kept (o1 a (hP.lt ha))⟩
/-- throw new E("text") -/
theorem z_throwS {post : Option Value → zG → Prop} {px : String → zG → Prop} {mc ms : Nat} {cls text : String} {names : List String} {ik is ic : Nat} (hcls : Bundle.fit cls = true) (hnames : ∀ n ∈ names, Bundle.fit n = true)
  (hk : Cond.classLink y.cls ik cls ∈ lw_tbl) (hini : Cond.initialized cls ∈ lw_tbl) (hstr : Cond.stringRef y.cls is text ∈ lw_tbl) (hat : ∀ w ∈ vx_atS y.cls ic cls names, w ∈ lw_tbl) (hot : ∀ w ∈ vx_atS y.cls ic cls names, goodWord w = true)
  (d0 : decode cc pc = .ok (.new ik, 3)) (d3 : decode cc (pc + 3) = .ok (.dup, 1)) (d4 : decode cc (pc + 4) = .ok (.ldc is, 2)) (d6 : decode cc (pc + 6) = .ok (.invokespecial ic, 3)) (d9 : decode cc (pc + 9) = .ok (.athrow, 1))
  (hRframes : names.length + 3 < R.frames) (hRlocals : (st.map fun v => v.category).sum + (13 * (names.length + 1) + 43) ≤ R.locals) (hR : cells + 1 ≤ R.cells ∧ slots + 6 ≤ R.slots) (hp : px cls G) (h1 : cells + 1 ≤ mc) (h2 : slots + 6 ≤ ms) :
  Z g0 d y cc nL ret [] p l e R s m args below meth c (vx_MQ below (zQc g0 d post) (zXc g0 d px) args s mc ms (zA g0)) cells slots G L st pc := by
  intro hc H locs ls hP hS hl
  obtain ⟨⟨a0, h0, -, -, -, hU, hN, hT, -⟩, -⟩ := id hc
  obtain ⟨sa, hsa⟩ := hT _ _ _ hstr
  have hq : ∀ q : Nat, q < g0.heap.size → ¬ zA g0 q → s.heap[q]? = g0.heap[q]? := fun q h1 _ => hc.old.2 q h1
  refine vx_throwS hc.x hc.b hc.st hc.own hcls hnames (hc.w hk rfl args) (hc.w hini rfl args) (vk_R.warm hc.warm hsa) (fun w hw => hc.w (hat w hw) (hot w hw) args) ?_ (vx_Zq.moved hc.warm.alike (hU.kept hq)) (vx_Zq.moved hc.warm.alike (hN.kept hq)) hS (by rw [hc.ml]; exact hl.1) d0 d3 d4 d6 d9 (by rw [hc.tbl]; exact fun _ h => nomatch h) hRframes hRlocals hR.1 hR.2 hc.locks (fun t ha hz hk => ⟨⟨G, hp, hP.kept hk⟩, Nat.le_trans hS.1 hz, fun q h3 h4 => (hk q (Nat.lt_of_lt_of_le h3 hS.1)).trans (hS.2.1 q h3 h4)⟩) hS.2.2 h1 h2
  intro w hw
  unfold vx_ot
  rcases List.mem_cons.mp hw with rfl | hw
  · rfl
  · rcases List.mem_cons.mp hw with rfl | hw
    · rfl
    · rw [hot w hw]; exact Bool.or_true _
/-- not caught here -/
theorem z_out {post : Option Value → zG → Prop} {px : String → zG → Prop} {mc ms : Nat} {E : String} (hp : px E G) (h1 : cells ≤ mc) (h2 : slots ≤ ms) : ZX g0 d y cc nL ret [] p l e R s m args below meth c (vx_MQ below (zQc g0 d post) (zXc g0 d px) args s mc ms (zA g0)) cells slots G L st pc E := by
  intro hc H locs ls q ce hP hS hl hce hcv hcl
  exact vx_out (by rw [hc.tbl]; exact fun _ h => nomatch h) hc.locks hce hcv hcl (fun t ht ha => ⟨⟨G, hp, by rw [ht]; exact hP⟩, hS.F ht⟩) hS.2.2 h1 h2
end ZENTRY
