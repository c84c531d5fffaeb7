
/-! THE LAW'S OWN ROWS: methods with handlers, what they catch; the script -/

def zMetW (g0 : State) (d : zD) (l : Launch) (y : MethodName) (cc : ByteArray) (nL : Nat) (ret : Option FieldType) (hh : List (Nat × Nat × Nat × Nat)) (f mc ms : Nat) (av : List Value) (G : zG) (post : Option Value → zG → Prop) (px : String → zG → Prop) : Prop :=
  vx_Met l y [Cond.codeWith y cc nL ret hh] (zR f mc ms) (va_Pc av (zB g0 d G)) (zQc g0 d post) (zXc g0 d px) mc ms (zA g0)
def zYW (y : MethodName) (cc : ByteArray) (nL : Nat) (ret : Option FieldType) (hh : List (Nat × Nat × Nat × Nat)) (n : Nat) : Prop := Cond.codeWith y cc nL ret hh ∈ lw_tbl ∧ Cond.initialized y.cls ∈ lw_tbl ∧ (y.cls ≠ "java/lang/invoke/MethodHandle" ∧ y.cls ≠ "java/lang/invoke/VarHandle") ∧ (parseMethodDescriptor y.desc).map (fun d => d.parameters.length) = some n
abbrev nIAE : String := "java/lang/IllegalArgumentException"
abbrev nISE : String := "java/lang/IllegalStateException"
abbrev nIOE : String := "java/lang/IndexOutOfBoundsException"
/-- none of the three is another -/
def zNc (g : State) : Prop := va_Nc nIAE nISE g ∧ va_Nc nIAE nIOE g ∧ va_Nc nISE nIAE g ∧ va_Nc nISE nIOE g ∧ va_Nc nIOE nIAE g ∧ va_Nc nIOE nISE g
theorem zNc.IAE_ISE {g : State} (h : zNc g) : va_Nc nIAE nISE g := h.1
theorem zNc.IAE_IOE {g : State} (h : zNc g) : va_Nc nIAE nIOE g := h.2.1
theorem zNc.ISE_IAE {g : State} (h : zNc g) : va_Nc nISE nIAE g := h.2.2.1
theorem zNc.ISE_IOE {g : State} (h : zNc g) : va_Nc nISE nIOE g := h.2.2.2.1
theorem zNc.IOE_IAE {g : State} (h : zNc g) : va_Nc nIOE nIAE g := h.2.2.2.2.1
theorem zNc.IOE_ISE {g : State} (h : zNc g) : va_Nc nIOE nISE g := h.2.2.2.2.2
section ZLAW
variable {g0 : State} {d : zD} {y : MethodName} {cc : ByteArray} {nL : Nat} {ret : Option FieldType} {tb : List ExceptionTableEntry} {p : Program} {l : Launch} {e : Env} {R : Room} {s : State} {m : MethodId} {args : Array Value} {below : List Frame} {meth : Method} {c : Code} {Q : State → Prop} {cells slots : Nat} {G : zG} {L : List (Nat × Value)} {st : List Value} {pc : Nat}
theorem z_entryW {hh : List (Nat × Nat × Nat × Nat)} {post : Option Value → zG → Prop} {px : String → zG → Prop} {f mc ms : Nat} {av : List Value} {a0 : Array Value} (hs0 : zS0 d a0 g0) (hst : l.stackTraces = false) (hy : plainName y.cls = true) (hlen : (lg_sl av).length ≤ nL)
  (body : ∀ (p : Program) (e : Env) (s : State) (m : MethodId) (args : Array Value) (below : List Frame) (meth : Method) (c : Code), Z g0 d y cc nL ret (tableOf hh) p l e (zR f mc ms) s m args below meth c (vx_MQ below (zQc g0 d post) (zXc g0 d px) args s mc ms (zA g0)) 0 0 G (lv_args 0 av) [] 0) : zMetW g0 d l y cc nL ret hh f mc ms av G post px := by
  refine vx_ofWH (cc := cc) (maxL := nL) (ret := ret) (hh := hh) hy rfl ?_
  intro p e s m args below meth c s₁ B hml hv
  have hT : c.exceptionTable.toList = tableOf hh := vx_table (x := y) B (atoms_spec (ws := [Cond.codeWith y cc nL ret hh]) B.pre _ List.mem_cons_self)
  obtain ⟨rfl, hW, hO, hP⟩ := hv
  have hl' := lv_entry av (n := nL) hlen
  rw [lg_entry_eq]
  generalize (lg_sl av ++ List.replicate (nL - (lg_sl av).length) Slot.unset).toArray = ls at hl' ⊢
  exact body p e s m av.toArray below meth c ⟨⟨a0, hs0⟩, hst, B.exec, B.bytes, hml, findClass_of_methodNamed B.named, hW, hO, B.notSynchronized, B.returns, (name_of_methodNamed B.named B.method).1, hT⟩ _ _ ls hP va_S.rf hl'
theorem z_catch {E nm : String} (pre : List ExceptionTableEntry) (x : ExceptionTableEntry) (suf : List ExceptionTableEntry) (hsplit : tb = pre ++ x :: suf) (hpass : ∀ z ∈ pre, covers z pc = false ∨ (z.catchType ≠ 0 ∧ ∃ nm : String, Cond.classLink y.cls z.catchType nm ∈ lw_tbl ∧ va_Nc E nm g0)) (hx : covers x pc = true) (h0 : x.catchType ≠ 0) (hlink : Cond.classLink y.cls x.catchType nm ∈ lw_tbl) (hcast : Cond.castable E nm ∈ lw_tbl) (kk : ∀ q, Z g0 d y cc nL ret tb p l e R s m args below meth c Q cells slots G L [.ref q] x.handlerPc) : ZX g0 d y cc nL ret tb p l e R s m args below meth c Q cells slots G L st pc E := by
  intro hc H locs ls q ce hP hS hl hce hcv hcl
  refine vx_catch hc.own pre x suf (by rw [hc.tbl]; exact hsplit) (fun z hz => ?_) hx h0 (hc.w hlink rfl args) (va_Nw.use rfl (hc.cast hcast)) hce hcv hcl (kk q hc H locs ls hP hS hl)
  rcases hpass z hz with h | ⟨h1, nm, h2, h3⟩
  · exact Or.inl h
  · exact Or.inr ⟨h1, nm, hc.w h2 rfl args, va_Nc.moved hc.warm.alike h3⟩
theorem z_callSW {y2 : MethodName} {cc2 : ByteArray} {nL2 idx : Nat} {ret2 : Option FieldType} {hh : List (Nat × Nat × Nat × Nat)} {f2 mc2 ms2 : Nat} {av rest : List Value} {post : Option Value → zG → Prop} {px : String → zG → Prop} (hM : zMetW g0 d l y2 cc2 nL2 ret2 hh f2 mc2 ms2 av G post px) (hy : zYW y2 cc2 nL2 ret2 hh av.length) (hq : Cond.methodLink y.cls idx y2 ∈ lw_tbl) (hstt : Cond.static y2 ∈ lw_tbl) (hd : decode cc pc = .ok (.invokestatic idx, 3)) (hst : st = av.reverse ++ rest) (hrest : (rest.map fun v => v.category).sum ≤ 8) (hf : cells + mc2 ≤ R.cells ∧ slots + ms2 ≤ R.slots) (hR : f2 + 1 ≤ R.frames ∧ 8 + (nL2 + 11) + 64 * f2 ≤ R.locals)
  (kx : ∀ (E : String) (G' : zG), px E G' → ZX g0 d y cc nL ret tb p l e R s m args below meth c Q (cells + mc2) (slots + ms2) G' L rest pc E)
  (kk : ∀ (r : Option Value) (G' : zG), post r G' → Z g0 d y cc nL ret tb p l e R s m args below meth c Q (cells + mc2) (slots + ms2) G' L (r.toList ++ rest) (pc + 3)) : Z g0 d y cc nL ret tb p l e R s m args below meth c Q cells slots G L st pc := by
  intro hc H locs ls hP hS hl
  have hws : ∀ w ∈ [Cond.codeWith y2 cc2 nL2 ret2 hh], ∀ (a' : Array Value) (U : State), s.WarmedH U.vm → w.before a' U = true := by
    intro w hw a' U hW
    rw [List.mem_singleton.mp hw]
    obtain ⟨⟨a0, h0, -⟩, -⟩ := id hc
    exact word_at (State.WarmedH.trans hc.warm hW) (good_of_word rfl) (h0 _ hy.1)
  exact z_back hc hS hl (vx_runSX (hh := hh) (As := av) (rest := rest) (n := av.length) ⟨hc.x, hc.b, hc.ml, hc.own, fun w h => nomatch (h : w ∈ [])⟩ hM ⟨⟨rfl, rfl, hR.1, hR.2, hws, List.mem_cons_self⟩, hc.w hy.1 rfl args, hc.w hy.2.1 rfl args, hy.2.2.1, z_len hy.2.2.2, hc.w hq rfl args, hc.w hstt rfl args⟩ ⟨z_blind, z_pre hc hP hS⟩ rfl rfl hl.1 hst (lv_room hrest) hd hf) kx kk
theorem z_callSWp1 {y2 : MethodName} {cc2 : ByteArray} {nL2 idx : Nat} {ret2 : Option FieldType} {hh : List (Nat × Nat × Nat × Nat)} {f2 mc2 ms2 : Nat} {av rest : List Value} {post : Option Value → zG → Prop} (hM : zMetW g0 d l y2 cc2 nL2 ret2 hh f2 mc2 ms2 av G post zNo) (hy : zYW y2 cc2 nL2 ret2 hh av.length) (hq : Cond.methodLink y.cls idx y2 ∈ lw_tbl) (hstt : Cond.static y2 ∈ lw_tbl) (hd : decode cc pc = .ok (.invokestatic idx, 3)) (hst : st = av.reverse ++ rest) (hrest : (rest.map fun v => v.category).sum ≤ 8) (hf : cells + mc2 ≤ R.cells ∧ slots + ms2 ≤ R.slots) (hR : f2 + 1 ≤ R.frames ∧ 8 + (nL2 + 11) + 64 * f2 ≤ R.locals)
  (kk : ∀ (r : Option Value) (G' : zG), post r G' → Z g0 d y cc nL ret tb p l e R s m args below meth c Q (cells + mc2) (slots + ms2) G' L (r.toList ++ rest) (pc + 3)) : Z g0 d y cc nL ret tb p l e R s m args below meth c Q cells slots G L st pc :=
  z_callSW hM hy hq hstt hd hst hrest hf hR (fun _ _ h => h.elim) kk
theorem z_callIN {y2 : MethodName} {cc2 : ByteArray} {nL2 idx : Nat} {f2 mc2 ms2 : Nat} {host : String} {av rest : List Value} {post : Option Value → zG → Prop} {px : String → zG → Prop} {a : Nat} (hM : zMet g0 d l y2 cc2 nL2 none f2 mc2 ms2 (.ref a :: av) G post px) (hy : zY y2 cc2 nL2 none av.length) (hin : y2.name = "<init>") (hq : Cond.methodLinkNest y.cls idx y2 host ∈ lw_tbl) (hi : Cond.instanceMethod y2 ∈ lw_tbl) (hd : decode cc pc = .ok (.invokespecial idx, 3)) (hst : st = av.reverse ++ .ref a :: rest) (hrest : (rest.map fun v => v.category).sum ≤ 8) (hf : cells + mc2 ≤ R.cells ∧ slots + ms2 ≤ R.slots) (hR : f2 + 1 ≤ R.frames ∧ 8 + (nL2 + 11) + 64 * f2 ≤ R.locals)
  (kx : ∀ (E : String) (G' : zG), px E G' → ZX g0 d y cc nL ret tb p l e R s m args below meth c Q (cells + mc2) (slots + ms2) G' L rest pc E)
  (kk : ∀ (r : Option Value) (G' : zG), post r G' → Z g0 d y cc nL ret tb p l e R s m args below meth c Q (cells + mc2) (slots + ms2) G' L (r.toList ++ rest) (pc + 3)) : Z g0 d y cc nL ret tb p l e R s m args below meth c Q cells slots G L st pc := by
  intro hc H locs ls hP hS hl
  exact z_back hc hS hl (vx_runIN (As := av) (rest := rest) (n := av.length) ⟨hc.x, hc.b, hc.ml, hc.own, fun w h => nomatch (h : w ∈ [])⟩ hM ⟨z_cn hc hy hq hR, hin, hc.w hi rfl args⟩ ⟨z_blind, z_pre hc hP hS⟩ rfl rfl hl.1 hst (lv_room hrest) hd hf) kx kk
theorem z_callIN1 {y2 : MethodName} {cc2 : ByteArray} {nL2 idx : Nat} {f2 mc2 ms2 : Nat} {host : String} {av rest : List Value} {a : Nat} {G1 : zG} {v : Option Value} (hM : zMet g0 d l y2 cc2 nL2 none f2 mc2 ms2 (.ref a :: av) G (zEq v G1) zNo) (hy : zY y2 cc2 nL2 none av.length) (hin : y2.name = "<init>") (hq : Cond.methodLinkNest y.cls idx y2 host ∈ lw_tbl) (hi : Cond.instanceMethod y2 ∈ lw_tbl) (hd : decode cc pc = .ok (.invokespecial idx, 3)) (hst : st = av.reverse ++ .ref a :: rest) (hrest : (rest.map fun v => v.category).sum ≤ 8) (hf : cells + mc2 ≤ R.cells ∧ slots + ms2 ≤ R.slots) (hR : f2 + 1 ≤ R.frames ∧ 8 + (nL2 + 11) + 64 * f2 ≤ R.locals)
  (kk : Z g0 d y cc nL ret tb p l e R s m args below meth c Q (cells + mc2) (slots + ms2) G1 L (v.toList ++ rest) (pc + 3)) : Z g0 d y cc nL ret tb p l e R s m args below meth c Q cells slots G L st pc :=
  z_callIN hM hy hin hq hi hd hst hrest hf hR (fun _ _ h => h.elim) (fun r G' h => by obtain ⟨rfl, rfl⟩ := h; exact kk)
theorem zCx.nF (h : zCx g0 d y cc nL ret tb p l s m meth c) {a : String} {i : Nat} {b n t hs : String} (hw : Cond.fieldLinkNest a i b n t hs ∈ lw_tbl) (args : Array Value) : (Cond.fieldLinkNest a i b n t hs).before args s = true := va_Nw.use rfl (h.nestF hw)
theorem z_getN {ci : Nat} {C host : String} {T : u_T} {N : Nat} {ty : Nat → FieldType} (hz : zCl ci C T N ty) {a idx : Nat} {fs : List Value} {v : Value} (k : Nat) (hk : k < N) (hq : Cond.fieldLinkNest y.cls idx (T k).1 (T k).2.1 (T k).2.2.1 host ∈ lw_tbl) (hG : G a = some (zob ci fs)) (hv : fs[k]? = some v) (hd : decode cc pc = .ok (.getfield idx, 3)) (kk : Z g0 d y cc nL ret tb p l e R s m args below meth c Q cells slots G L (v :: st) (pc + 3)) : Z g0 d y cc nL ret tb p l e R s m args below meth c Q cells slots G L (.ref a :: st) pc := by
  intro hc H locs ls hP hS hl
  obtain ⟨j, hj⟩ := hP.in hG
  exact va_getN hc.x hc.b (hc.lays hz args) (fun _ h => h) hc.own hc.K hP.P j hj hz.1 k hk (hc.nF hq args) (fun _ h => h) hv hd (kk hc H locs ls hP hS hl)
theorem z_putN {ci : Nat} {C host : String} {T : u_T} {N : Nat} {ty : Nat → FieldType} (hz : zCl ci C T N ty) {a idx : Nat} {fs : List Value} {v : Value} (k : Nat) (hk : k < N) (hq : Cond.fieldLinkNest y.cls idx (T k).1 (T k).2.1 (T k).2.2.1 host ∈ lw_tbl) (hG : G a = some (zob ci fs)) (hfin : (T k).2.2.2 = false) (hn : narrow (ty k) v = v) (hfit : fits (ty k) v = true) (hlen : k < fs.length) (hd : decode cc pc = .ok (.putfield idx, 3)) (kk : Z g0 d y cc nL ret tb p l e R s m args below meth c Q cells slots (zu G a (zob ci (fs.set k v))) L st (pc + 3)) : Z g0 d y cc nL ret tb p l e R s m args below meth c Q cells slots G L (v :: .ref a :: st) pc := by
  intro hc H locs ls hP hS hl
  obtain ⟨j, hj⟩ := hP.in hG
  exact va_putN hc.x hc.b (hc.lays hz args) (fun _ h => h) ty hz.2.2.1 hz.2.2.2 hc.own hc.K hP.P hP.D hS j hj hz.1 k hk (hc.nF hq args) (fun _ h => h) hfin (hz.2.2.1 k hk) hn hfit hlen hd (fun H1 locs1 hP1 hD1 hS1 => kk hc H1 locs1 ls (hP.set hj hP1) hS1 hl)
theorem z_sld {b N : Nat} {xs : Nat → Int32} (hX : va_X b N xs g0 g0.heap) (hbl : b < g0.heap.size) {i : Int32} (hin : vp_in i N) (hd : decode cc pc = .ok (.iaload, 1)) (kk : Z g0 d y cc nL ret tb p l e R s m args below meth c Q cells slots G L (.int (xs i.toNatClampNeg) :: st) (pc + 1)) : Z g0 d y cc nL ret tb p l e R s m args below meth c Q cells slots G L (.int i :: .ref b :: st) pc := by
  intro hc H locs ls hP hS hl
  have hb1 : b < s.heap.size := Nat.lt_of_lt_of_le hbl hc.old.1
  exact va_sld (A := zA g0) (H0 := s.heap) hc.x hc.b (va_X.kept (va_X.moved hc.warm.alike hX) (hc.old.2 b hbl)) hb1 (Nat.not_le.mpr hbl) hS hin hd (kk hc H locs ls hP hS hl)
theorem z_slen {b N : Nat} {xs : Nat → Int32} (hX : va_X b N xs g0 g0.heap) (hbl : b < g0.heap.size) (hd : decode cc pc = .ok (.arraylength, 1)) (kk : Z g0 d y cc nL ret tb p l e R s m args below meth c Q cells slots G L (.int (nI N) :: st) (pc + 1)) : Z g0 d y cc nL ret tb p l e R s m args below meth c Q cells slots G L (.ref b :: st) pc := by
  intro hc H locs ls hP hS hl
  have hb1 : b < s.heap.size := Nat.lt_of_lt_of_le hbl hc.old.1
  exact va_slen (A := zA g0) (H0 := s.heap) hc.x hc.b (va_X.kept (va_X.moved hc.warm.alike hX) (hc.old.2 b hbl)) hb1 (Nat.not_le.mpr hbl) hS hd (kk hc H locs ls hP hS hl)
end ZLAW

theorem ymw_La_keeper : zYW y_La_keeper c_La_keeper 6 ((Option.some Jvm.ClassFile.FieldType.int)) ([((0 : Nat), (13 : Nat), (16 : Nat), (19 : Nat)), ((0 : Nat), (13 : Nat), (20 : Nat), (21 : Nat))]) 5 := ⟨qCw_La_keeper, qN_La, ⟨by decide, by decide⟩, by decide +kernel⟩
theorem ymw_La_lie : zYW y_La_lie c_La_lie 5 ((Option.some Jvm.ClassFile.FieldType.int)) ([((0 : Nat), (11 : Nat), (14 : Nat), (27 : Nat)), ((0 : Nat), (11 : Nat), (18 : Nat), (19 : Nat))]) 4 := ⟨qCw_La_lie, qN_La, ⟨by decide, by decide⟩, by decide +kernel⟩
theorem ymw_La_deal : zYW y_La_deal c_La_deal 8 ((Option.some Jvm.ClassFile.FieldType.int)) ([((0 : Nat), (17 : Nat), (20 : Nat), (19 : Nat)), ((0 : Nat), (17 : Nat), (24 : Nat), (21 : Nat))]) 7 := ⟨qCw_La_deal, qN_La, ⟨by decide, by decide⟩, by decide +kernel⟩
theorem ymw_La_fresh : zYW y_La_fresh c_La_fresh 5 ((Option.some Jvm.ClassFile.FieldType.int)) ([((0 : Nat), (11 : Nat), (14 : Nat), (27 : Nat)), ((0 : Nat), (11 : Nat), (18 : Nat), (19 : Nat)), ((0 : Nat), (11 : Nat), (22 : Nat), (21 : Nat))]) 4 := ⟨qCw_La_fresh, qN_La, ⟨by decide, by decide⟩, by decide +kernel⟩
theorem ymw_La_flood : zYW y_La_flood c_La_flood 4 ((Option.some Jvm.ClassFile.FieldType.int)) ([((0 : Nat), (10 : Nat), (13 : Nat), (27 : Nat))]) 3 := ⟨qCw_La_flood, qN_La, ⟨by decide, by decide⟩, by decide +kernel⟩
theorem ymw_La_rebuild : zYW y_La_rebuild c_La_rebuild 6 ((Option.some Jvm.ClassFile.FieldType.int)) ([((0 : Nat), (13 : Nat), (16 : Nat), (27 : Nat)), ((0 : Nat), (13 : Nat), (20 : Nat), (19 : Nat)), ((0 : Nat), (13 : Nat), (24 : Nat), (21 : Nat))]) 5 := ⟨qCw_La_rebuild, qN_La, ⟨by decide, by decide⟩, by decide +kernel⟩
theorem ymw_La_freeze : zYW y_La_freeze c_La_freeze 6 ((Option.some Jvm.ClassFile.FieldType.int)) ([((0 : Nat), (13 : Nat), (16 : Nat), (27 : Nat))]) 5 := ⟨qCw_La_freeze, qN_La, ⟨by decide, by decide⟩, by decide +kernel⟩
theorem ymw_La_pass : zYW y_La_pass c_La_pass 4 ((Option.some Jvm.ClassFile.FieldType.int)) ([((0 : Nat), (10 : Nat), (13 : Nat), (19 : Nat)), ((0 : Nat), (10 : Nat), (16 : Nat), (21 : Nat))]) 3 := ⟨qCw_La_pass, qN_La, ⟨by decide, by decide⟩, by decide +kernel⟩
theorem ymw_La_open : zYW y_La_open c_La_open 5 ((Option.some Jvm.ClassFile.FieldType.int)) ([((0 : Nat), (11 : Nat), (14 : Nat), (27 : Nat)), ((0 : Nat), (11 : Nat), (18 : Nat), (19 : Nat))]) 4 := ⟨qCw_La_open, qN_La, ⟨by decide, by decide⟩, by decide +kernel⟩
theorem ymw_La_ofKeeper : zYW y_La_ofKeeper c_La_ofKeeper 5 ((Option.some Jvm.ClassFile.FieldType.int)) ([((0 : Nat), (11 : Nat), (14 : Nat), (27 : Nat)), ((0 : Nat), (11 : Nat), (18 : Nat), (19 : Nat))]) 4 := ⟨qCw_La_ofKeeper, qN_La, ⟨by decide, by decide⟩, by decide +kernel⟩
theorem ymw_La_ofSecret : zYW y_La_ofSecret c_La_ofSecret 5 ((Option.some Jvm.ClassFile.FieldType.int)) ([((0 : Nat), (11 : Nat), (14 : Nat), (27 : Nat)), ((0 : Nat), (11 : Nat), (18 : Nat), (19 : Nat))]) 4 := ⟨qCw_La_ofSecret, qN_La, ⟨by decide, by decide⟩, by decide +kernel⟩
theorem ymw_La_share : zYW y_La_share c_La_share 6 ((Option.some Jvm.ClassFile.FieldType.int)) ([((0 : Nat), (13 : Nat), (16 : Nat), (27 : Nat)), ((0 : Nat), (13 : Nat), (20 : Nat), (19 : Nat))]) 5 := ⟨qCw_La_share, qN_La, ⟨by decide, by decide⟩, by decide +kernel⟩
theorem ymw_La_bank : zYW y_La_bank c_La_bank 4 ((Option.some Jvm.ClassFile.FieldType.int)) ([((0 : Nat), (10 : Nat), (13 : Nat), (19 : Nat))]) 3 := ⟨qCw_La_bank, qN_La, ⟨by decide, by decide⟩, by decide +kernel⟩
theorem ymw_La_ofEntry : zYW y_La_ofEntry c_La_ofEntry 5 ((Option.some Jvm.ClassFile.FieldType.int)) ([((0 : Nat), (11 : Nat), (14 : Nat), (27 : Nat)), ((0 : Nat), (11 : Nat), (18 : Nat), (19 : Nat))]) 4 := ⟨qCw_La_ofEntry, qN_La, ⟨by decide, by decide⟩, by decide +kernel⟩
theorem ymw_La_proof : zYW y_La_proof c_La_proof 5 ((Option.some Jvm.ClassFile.FieldType.int)) ([((0 : Nat), (11 : Nat), (14 : Nat), (27 : Nat))]) 4 := ⟨qCw_La_proof, qN_La, ⟨by decide, by decide⟩, by decide +kernel⟩
theorem ymw_La_row : zYW y_La_row c_La_row 4 ((Option.some Jvm.ClassFile.FieldType.int)) ([((0 : Nat), (9 : Nat), (12 : Nat), (27 : Nat))]) 3 := ⟨qCw_La_row, qN_La, ⟨by decide, by decide⟩, by decide +kernel⟩
theorem ymw_La_would : zYW y_La_would c_La_would 6 ((Option.some Jvm.ClassFile.FieldType.int)) ([((0 : Nat), (13 : Nat), (16 : Nat), (27 : Nat)), ((0 : Nat), (13 : Nat), (20 : Nat), (19 : Nat))]) 5 := ⟨qCw_La_would, qN_La, ⟨by decide, by decide⟩, by decide +kernel⟩
theorem ymw_La_may : zYW y_La_may c_La_may 6 ((Option.some Jvm.ClassFile.FieldType.int)) ([((0 : Nat), (20 : Nat), (23 : Nat), (27 : Nat)), ((0 : Nat), (20 : Nat), (27 : Nat), (19 : Nat))]) 5 := ⟨qCw_La_may, qN_La, ⟨by decide, by decide⟩, by decide +kernel⟩
theorem ymw_La_lost : zYW y_La_lost c_La_lost 4 ((Option.some Jvm.ClassFile.FieldType.int)) ([((0 : Nat), (9 : Nat), (12 : Nat), (27 : Nat))]) 3 := ⟨qCw_La_lost, qN_La, ⟨by decide, by decide⟩, by decide +kernel⟩
theorem ymw_La_fewest : zYW y_La_fewest c_La_fewest 4 ((Option.some Jvm.ClassFile.FieldType.int)) ([((0 : Nat), (10 : Nat), (13 : Nat), (27 : Nat))]) 3 := ⟨qCw_La_fewest, qN_La, ⟨by decide, by decide⟩, by decide +kernel⟩
theorem ymw_La_proves : zYW y_La_proves c_La_proves 5 ((Option.some Jvm.ClassFile.FieldType.int)) ([((0 : Nat), (18 : Nat), (21 : Nat), (27 : Nat)), ((0 : Nat), (18 : Nat), (25 : Nat), (19 : Nat))]) 4 := ⟨qCw_La_proves, qN_La, ⟨by decide, by decide⟩, by decide +kernel⟩
theorem d_Ou_init_0 : decode c_Ou_init 0 = .ok (.aload_n 0, 1) := by decide +kernel
theorem d_Ou_init_1 : decode c_Ou_init 1 = .ok (.invokespecial 1, 3) := by decide +kernel
theorem d_Ou_init_4 : decode c_Ou_init 4 = .ok (.return_, 1) := by decide +kernel
set_option maxHeartbeats 4000000 in
set_option maxRecDepth 100000 in
theorem m_Ou_init {g0 : State} {d : zD} {l : Launch} {a0 : Array Value} (hs0 : zS0 d a0 g0) (hst : l.stackTraces = false) {G : zG} {h : Nat} : zMet g0 d l y_Ou_init c_Ou_init 1 ((Option.none : Option Jvm.ClassFile.FieldType)) 1 0 0 [.ref h] (G) (zEq none G) (zNo) := by
  refine z_entry hs0 hst (by decide) (Nat.le_of_ble_eq_true rfl) (fun p e s m args below meth c => ?_)
  refine z_aload_n 0 d_Ou_init_0 rfl rfl ?_
  refine z_objInit qM_Ou_1 qI_Oj_init_0566 qC_Oj_init_0566 d_Ou_init_1 (by decide) ⟨by decide, by decide⟩ ?_
  exact z_vret rfl (⟨rfl, rfl⟩) (by first | decide | omega) (by first | decide | omega) d_Ou_init_4
