
section ZCV
variable {g0 : State} {d : zD} {y : MethodName} {cc : ByteArray} {nL : Nat} {ret : Option FieldType} {tb : List ExceptionTableEntry} {p : Program} {l : Launch} {e : Env} {R : Room} {s : State} {m : MethodId} {args : Array Value} {below : List Frame} {meth : Method} {c : Code} {Q : State → Prop} {cells slots : Nat} {G : zG} {L : List (Nat × Value)} {st : List Value} {pc : Nat}
/-- a call on an object of class C of a method of a class above it, which C does not lay anew -/
theorem z_callVC {y2 : MethodName} {cc2 : ByteArray} {nL2 idx : Nat} {ret2 : Option FieldType} {f2 mc2 ms2 : Nat} {av rest : List Value} {post : Option Value → zG → Prop} {px : String → zG → Prop} {ci a : Nat} {C : String} {T : u_T} {N : Nat} {ty : Nat → FieldType} {fs : List Value} (hM : zMet g0 d l y2 cc2 nL2 ret2 f2 mc2 ms2 (.ref a :: av) G post px) (hy : zY y2 cc2 nL2 ret2 av.length) (hq : Cond.methodLink y.cls idx y2 ∈ lw_tbl) (hi : Cond.instanceMethod y2 ∈ lw_tbl) (hv : zCx g0 d y cc nL ret tb p l s m meth c → (Cond.selects C y2 y2).before args s = true) (hz : zCl ci C T N ty) (hG : G a = some (zob ci fs)) (hd : decode cc pc = .ok (.invokevirtual idx, 3)) (hst : st = av.reverse ++ .ref a :: rest) (hrest : (rest.map fun v => v.category).sum ≤ 8) (hf : cells + mc2 ≤ R.cells ∧ slots + ms2 ≤ R.slots) (hR : f2 + 1 ≤ R.frames ∧ 8 + (nL2 + 11) + 64 * f2 ≤ R.locals)
  (kx : ∀ (E : String) (G' : zG), px E G' → ZX g0 d y cc nL ret tb p l e R s m args below meth c Q (cells + mc2) (slots + ms2) G' L rest pc E)
  (kk : ∀ (r : Option Value) (G' : zG), post r G' → Z g0 d y cc nL ret tb p l e R s m args below meth c Q (cells + mc2) (slots + ms2) G' L (r.toList ++ rest) (pc + 3)) : Z g0 d y cc nL ret tb p l e R s m args below meth c Q cells slots G L st pc := by
  intro hc H locs ls hP hS hl
  exact z_back hc hS hl (vx_runV (As := av) (rest := rest) (n := av.length) (C := C) ⟨hc.x, hc.b, hc.ml, hc.own, fun w h => nomatch (h : w ∈ [])⟩ hM ⟨z_cb hc hy hq hR, hc.w hi rfl args, hv hc⟩ ⟨z_blind, z_recv hc hP hz hG, z_pre hc hP hS⟩ rfl rfl hl.1 hst (lv_room hrest) hd hf) kx kk
/-- .. whose method x C lays anew: y2 -/
theorem z_callVU {y2 : MethodName} {cc2 : ByteArray} {nL2 idx : Nat} {ret2 : Option FieldType} {f2 mc2 ms2 : Nat} {av rest : List Value} {post : Option Value → zG → Prop} {px : String → zG → Prop} {ci a : Nat} {C : String} {x : MethodName} {bx : ByteArray} {nx : Nat} {rx : Option FieldType} {T : u_T} {N : Nat} {ty : Nat → FieldType} {fs : List Value} (hM : zMet g0 d l y2 cc2 nL2 ret2 f2 mc2 ms2 (.ref a :: av) G post px) (hy : zY y2 cc2 nL2 ret2 av.length) (hq : Cond.methodLink y.cls idx x ∈ lw_tbl) (hsm : Cond.sameMethod x.cls x.cls x.name x.desc ∈ lw_tbl) (hix : Cond.instanceMethod x ∈ lw_tbl) (hcx : Cond.code x bx nx rx ∈ lw_tbl) (hxd : x.desc = y2.desc) (hxn : x.cls ≠ "java/lang/invoke/MethodHandle" ∧ x.cls ≠ "java/lang/invoke/VarHandle") (hv : Cond.selects C x y2 ∈ lw_tbl) (hi : Cond.instanceMethod y2 ∈ lw_tbl) (hz : zCl ci C T N ty) (hG : G a = some (zob ci fs)) (hd : decode cc pc = .ok (.invokevirtual idx, 3)) (hst : st = av.reverse ++ .ref a :: rest) (hrest : (rest.map fun v => v.category).sum ≤ 8) (hf : cells + mc2 ≤ R.cells ∧ slots + ms2 ≤ R.slots) (hR : f2 + 1 ≤ R.frames ∧ 8 + (nL2 + 11) + 64 * f2 ≤ R.locals)
  (kx : ∀ (E : String) (G' : zG), px E G' → ZX g0 d y cc nL ret tb p l e R s m args below meth c Q (cells + mc2) (slots + ms2) G' L rest pc E)
  (kk : ∀ (r : Option Value) (G' : zG), post r G' → Z g0 d y cc nL ret tb p l e R s m args below meth c Q (cells + mc2) (slots + ms2) G' L (r.toList ++ rest) (pc + 3)) : Z g0 d y cc nL ret tb p l e R s m args below meth c Q cells slots G L st pc := by
  intro hc H locs ls hP hS hl
  have hl9 : ∀ sig, parseMethodDescriptor x.desc = some sig → av.length = sig.parameters.length := by rw [hxd]; exact z_len hy.2.2.2
  exact z_back hc hS hl (vx_runU (As := av) (rest := rest) (n := av.length) (C := C) (x := x) (owner := x.cls) ⟨hc.x, hc.b, hc.ml, hc.own, fun w h => nomatch (h : w ∈ [])⟩ hM ⟨⟨rfl, rfl, hR.1, hR.2, z_hws hc hy.1, List.mem_cons_self⟩, hc.w hy.1 rfl args, hc.w hy.2.1 rfl args, hxn, hl9, hc.w hq rfl args, hc.w hsm rfl args, va_Decl.of (hc.w hix rfl args) (hc.w hcx rfl args), hc.w hv rfl args, hc.w hi rfl args⟩ ⟨z_blind, z_recv hc hP hz hG, z_pre hc hP hS⟩ rfl rfl hl.1 hst (lv_room hrest) hd hf) kx kk
/-- super.method() -/
theorem z_callSU {y2 : MethodName} {cc2 : ByteArray} {nL2 idx : Nat} {ret2 : Option FieldType} {f2 mc2 ms2 : Nat} {av rest : List Value} {post : Option Value → zG → Prop} {px : String → zG → Prop} {ci a : Nat} {C : String} {T : u_T} {N : Nat} {ty : Nat → FieldType} {fs : List Value} (hM : zMet g0 d l y2 cc2 nL2 ret2 f2 mc2 ms2 (.ref a :: av) G post px) (hy : zY y2 cc2 nL2 ret2 av.length) (hno : y2.name ≠ "<init>") (hq : Cond.methodLink y.cls idx y2 ∈ lw_tbl) (hsm : Cond.sameMethod y2.cls y2.cls y2.name y2.desc ∈ lw_tbl) (hsc : Cond.superclass y.cls y2.cls ∈ lw_tbl) (hi : Cond.instanceMethod y2 ∈ lw_tbl) (hz : zCl ci C T N ty) (hG : G a = some (zob ci fs)) (hd : decode cc pc = .ok (.invokespecial idx, 3)) (hst : st = av.reverse ++ .ref a :: rest) (hrest : (rest.map fun v => v.category).sum ≤ 8) (hf : cells + mc2 ≤ R.cells ∧ slots + ms2 ≤ R.slots) (hR : f2 + 1 ≤ R.frames ∧ 8 + (nL2 + 11) + 64 * f2 ≤ R.locals)
  (kx : ∀ (E : String) (G' : zG), px E G' → ZX g0 d y cc nL ret tb p l e R s m args below meth c Q (cells + mc2) (slots + ms2) G' L rest pc E)
  (kk : ∀ (r : Option Value) (G' : zG), post r G' → Z g0 d y cc nL ret tb p l e R s m args below meth c Q (cells + mc2) (slots + ms2) G' L (r.toList ++ rest) (pc + 3)) : Z g0 d y cc nL ret tb p l e R s m args below meth c Q cells slots G L st pc := by
  intro hc H locs ls hP hS hl
  exact z_back hc hS hl (vx_runSU (As := av) (rest := rest) (n := av.length) (C := C) (hc.K.1 ci _ hz.1).2 ⟨hc.x, hc.b, hc.ml, hc.own, fun w h => nomatch (h : w ∈ [])⟩ hM ⟨⟨rfl, rfl, hR.1, hR.2, z_hws hc hy.1, List.mem_cons_self⟩, hc.w hq rfl args, hc.w hsm rfl args, hc.w hsc rfl args, hc.w hi rfl args, hc.w hy.2.1 rfl args, hc.w hy.1 rfl args, hno, z_len hy.2.2.2⟩ ⟨z_blind, z_recv hc hP hz hG, z_pre hc hP hS⟩ rfl rfl hl.1 hst (lv_room hrest) hd hf) kx kk
/-- String.COMPACT_STRINGS -/
theorem z_getsCS {idx : Nat} (hq : Cond.fieldLink y.cls idx "java/lang/String" "COMPACT_STRINGS" "Z" ∈ lw_tbl) (hd : decode cc pc = .ok (.getstatic idx, 3)) (k : Z g0 d y cc nL ret tb p l e R s m args below meth c Q cells slots G L (.int 1 :: st) (pc + 3)) : Z g0 d y cc nL ret tb p l e R s m args below meth c Q cells slots G L st pc := by
  intro hc H locs ls hP hS hl
  obtain ⟨⟨a0, h0, -, -, -, -, -, -, hZ, -⟩, -⟩ := id hc
  exact va_gets hc.x hc.b (va_Z.moved hc.warm.alike (va_Z.kept hZ (fun q h1 _ => hc.old.2 q h1))) hS hc.own (hc.w hq rfl args) (fun _ h => h) hd (k hc H locs ls hP hS hl)
/-- bytes copied -/
theorem z_copyB {a a0 n0 n1 idx k : Nat} {f g : Nat → Int32} (hq : Cond.methodLink y.cls idx arraycopyName ∈ lw_tbl) (hnat : Cond.native arraycopyName ∈ lw_tbl) (hstt : Cond.static arraycopyName ∈ lw_tbl) (hini : Cond.initialized "java/lang/System" ∈ lw_tbl) (hG0 : G a0 = some (zBy d n0 f)) (hG1 : G a = some (zBy d n1 g)) (hk : k < 2 ^ 30) (h0 : k ≤ n0) (h1 : k ≤ n1) (hfit : ∀ i, i < n0 → fits .byte (.int (f i)) = true) (hR : 1 ≤ R.frames ∧ 64 ≤ R.locals) (hst : (st.map fun v => v.category).sum ≤ 8) (hd : decode cc pc = .ok (.invokestatic idx, 3))
  (kk : Z g0 d y cc nL ret tb p l e R s m args below meth c Q cells slots (zu G a (zBy d n1 (va_cpy f g 0 0 k))) L st (pc + 3)) : Z g0 d y cc nL ret tb p l e R s m args below meth c Q cells slots G L (.int (nI k) :: .int 0 :: .ref a :: .int 0 :: .ref a0 :: st) pc := by
  intro hc H locs ls hP hS hl
  obtain ⟨j0, hj0⟩ := hP.in hG0
  obtain ⟨j1, hj1⟩ := hP.in hG1
  have hkc : (nI k).toNatClampNeg = k := nI_clamp (by omega)
  refine va_copyi hc.x hc.b (by rw [hc.ml]; exact hl.1.symm) hc.own (hc.w hq rfl args) (hc.w hnat rfl args) (hc.w hstt rfl args) (hc.w hini rfl args) hc.K hP.P hP.D hS j0 j1 2 2 hj0 hj1 rfl rfl rfl (by decide) (by decide) (nI_pos (by omega)) (by rw [hkc]; show 0 + k ≤ n0; omega) (by rw [hkc]; show 0 + k ≤ n1; omega) (fun i hi => hfit _ (by rw [hkc] at hi; show 0 + i < n0; omega)) hR.1 (Nat.le_trans (Nat.add_le_add_right hst _) (Nat.le_trans (show 8 + (nativeFrameWords "java/lang/System" "arraycopy" 5 + 11) ≤ 64 by decide) hR.2)) hd (fun H1 locs1 hP1 hD1 hS1 => ?_)
  have hP2 := hP.set hj1 hP1
  rw [hkc] at hP2
  exact kk hc H1 locs1 ls hP2 hS1 hl
end ZCV
theorem z_selP {g0 : State} {d : zD} {y : MethodName} {cc : ByteArray} {nL : Nat} {ret : Option FieldType} {tb : List ExceptionTableEntry} {p : Program} {l : Launch} {s : State} {m : MethodId} {args : Array Value} {meth : Method} {c : Code} {C : String} {y2 z2 : MethodName} {b2 : ByteArray} {n2 : Nat} {r2 : Option FieldType} (hsel : Cond.selects C z2 z2 ∈ lw_tbl) (hzc : z2.cls = y2.cls) (hpr : Cond.privateMethod y2 ∈ lw_tbl) (hi : Cond.instanceMethod y2 ∈ lw_tbl) (hy : y2.cls ≠ "java/lang/invoke/MethodHandle" ∧ y2.cls ≠ "java/lang/invoke/VarHandle") (hc : zCx g0 d y cc nL ret tb p l s m meth c) (hprg : ∀ a : Array Value, (Cond.privateMethod y2).before a s = true) : (Cond.selects C y2 y2).before args s = true := by
  obtain ⟨c2, r2, m2, q1, q2, q3, q4, kP, hkP, hkPi⟩ := Cond.selects_spec (hc.w hsel rfl args)
  obtain ⟨mk, methM, hnamed, hmethM, -, -⟩ := Cond.instanceMethod_spec (hc.w hi rfl args)
  have hfound : s.methodFound? y2.cls y2.name y2.desc = some mk := State.methodFound?_of_named hnamed hy
  have hcls : mk.cls = m2.cls := Option.some.inj ((findClass_of_methodNamed hnamed).symm.trans (by rw [← hzc]; exact findClass_of_methodNamed q3))
  have hsel2 : selectMethod {} s.vm c2 mk = .method mk := selectMethod_private hmethM (Cond.privateMethod_at (hprg args) mk methM hnamed hmethM)
  simp only [Cond.before, Cond.holds, Cond.value, q1, hfound, hnamed, hsel2, hcls, hkP]
  simp; exact hkPi


theorem zbf (x : Int32) : fits .byte (.int (vp_nar .byte x.toInt8.toInt32)) = true := by
  rw [pk_vb]
  exact pk_fb _


theorem zCx.priv {g0 : State} {d : zD} {y : MethodName} {cc : ByteArray} {nL : Nat} {ret : Option FieldType} {tb : List ExceptionTableEntry} {p : Program} {l : Launch} {s : State} {m : MethodId} {meth : Method} {c : Code} (h : zCx g0 d y cc nL ret tb p l s m meth c) {x : MethodName} (hw : Cond.privateMethod x ∈ lw_tbl) (args : Array Value) : (Cond.privateMethod x).before args s = true := by
  obtain ⟨⟨a0, h0, -⟩, -⟩ := id h
  have h1 := h0 _ hw
  have h2 := Cond.privateMethod_setVm (args := a0) (s := g0) (vm' := s.vm) h.warm.alike x
  rw [h1] at h2
  exact h2
theorem qPr_eci : (Jvm.Cond.privateMethod y_AB_ensureCapacityInternal) ∈ lw_tbl := List.mem_of_getElem? (i := 995) (by decide +kernel)
def zSB (d : zD) (h a : Nat) (f : Nat → Int32) (c : Nat) (G : zG) : Prop := (∃ ml : Int32, G h = some (zob 1 [.ref a, .int 0, .int ml, .int (nI c)])) ∧ G a = some (zBy d 16 f) ∧ ∀ i, i < 16 → fits .byte (.int (f i)) = true
/-- all but two cells are as they were -/
def zK2 (h a : Nat) (G G1 : zG) : Prop := ∀ q v, G q = some v → q ≠ h → q ≠ a → G1 q = some v

theorem d_AB_isLatin1_0 : decode c_AB_isLatin1 0 = .ok (.getstatic 18, 3) := by decide +kernel
theorem d_AB_isLatin1_3 : decode c_AB_isLatin1 3 = .ok (.ifCond .eq 14, 3) := by decide +kernel
theorem d_AB_isLatin1_6 : decode c_AB_isLatin1 6 = .ok (.aload_n 0, 1) := by decide +kernel
theorem d_AB_isLatin1_7 : decode c_AB_isLatin1 7 = .ok (.getfield 22, 3) := by decide +kernel
theorem d_AB_isLatin1_10 : decode c_AB_isLatin1 10 = .ok (.ifCond .ne 7, 3) := by decide +kernel
theorem d_AB_isLatin1_13 : decode c_AB_isLatin1 13 = .ok (.iconst 1, 1) := by decide +kernel
theorem d_AB_isLatin1_14 : decode c_AB_isLatin1 14 = .ok (.goto 4, 3) := by decide +kernel
theorem d_AB_isLatin1_18 : decode c_AB_isLatin1 18 = .ok (.ireturn, 1) := by decide +kernel
set_option maxHeartbeats 4000000 in
set_option maxRecDepth 100000 in
theorem m_AB_isLatin1 {g0 : State} {d : zD} {l : Launch} {a0 : Array Value} (hs0 : zS0 d a0 g0) (hst : l.stackTraces = false) {G : zG} {h : Nat} {v : Value} {ml c : Int32} (hG_SB : G h = some (zob 1 [v, .int 0, .int ml, .int c])) : zMet g0 d l y_AB_isLatin1 c_AB_isLatin1 1 ((Option.some Jvm.ClassFile.FieldType.boolean)) 1 0 0 [.ref h] (G) (zEq (some (.int 1)) G) (zNo) := by
  refine z_entry hs0 hst (by decide) (Nat.le_of_ble_eq_true rfl) (fun p e s m args below meth c => ?_)
  refine z_getsCS qF_AB_18 d_AB_isLatin1_0 ?_
  refine z_if_eq 17 d_AB_isLatin1_3 (by decide) (fun c_3 => absurd c_3 (by decide)) (fun c_3 => ?_)
  refine z_aload_n 0 d_AB_isLatin1_6 rfl rfl ?_
  refine z_get zc_SB 1 (by decide) qF_AB_22 hG_SB rfl d_AB_isLatin1_7 ?_
  refine z_if_ne 17 d_AB_isLatin1_10 (by decide) (fun c_10 => absurd rfl c_10) (fun c_10 => ?_)
  refine z_iconst (v := 1) d_AB_isLatin1_13 (by decide) ?_
  refine z_goto 18 d_AB_isLatin1_14 (by decide) ?_
  exact z_zret rfl (by first | rfl | exact zb_nar _) (⟨rfl, rfl⟩) (by first | decide | omega) (by first | decide | omega) d_AB_isLatin1_18
theorem d_AB_ensureCapacityInternal_0 : decode c_AB_ensureCapacityInternal 0 = .ok (.aload_n 0, 1) := by decide +kernel
theorem d_AB_ensureCapacityInternal_1 : decode c_AB_ensureCapacityInternal 1 = .ok (.getfield 15, 3) := by decide +kernel
theorem d_AB_ensureCapacityInternal_4 : decode c_AB_ensureCapacityInternal 4 = .ok (.arraylength, 1) := by decide +kernel
theorem d_AB_ensureCapacityInternal_5 : decode c_AB_ensureCapacityInternal 5 = .ok (.aload_n 0, 1) := by decide +kernel
theorem d_AB_ensureCapacityInternal_6 : decode c_AB_ensureCapacityInternal 6 = .ok (.getfield 22, 3) := by decide +kernel
theorem d_AB_ensureCapacityInternal_9 : decode c_AB_ensureCapacityInternal 9 = .ok (.ishr, 1) := by decide +kernel
theorem d_AB_ensureCapacityInternal_10 : decode c_AB_ensureCapacityInternal 10 = .ok (.istore_n 2, 1) := by decide +kernel
theorem d_AB_ensureCapacityInternal_11 : decode c_AB_ensureCapacityInternal 11 = .ok (.iload_n 1, 1) := by decide +kernel
theorem d_AB_ensureCapacityInternal_12 : decode c_AB_ensureCapacityInternal 12 = .ok (.iload_n 2, 1) := by decide +kernel
theorem d_AB_ensureCapacityInternal_13 : decode c_AB_ensureCapacityInternal 13 = .ok (.isub, 1) := by decide +kernel
theorem d_AB_ensureCapacityInternal_14 : decode c_AB_ensureCapacityInternal 14 = .ok (.ifCond .le 24, 3) := by decide +kernel
theorem d_AB_ensureCapacityInternal_38 : decode c_AB_ensureCapacityInternal 38 = .ok (.return_, 1) := by decide +kernel
set_option maxHeartbeats 4000000 in
set_option maxRecDepth 100000 in
theorem m_AB_ensureCapacityInternal {g0 : State} {d : zD} {l : Launch} {a0 : Array Value} (hs0 : zS0 d a0 g0) (hst : l.stackTraces = false) {G : zG} {h a cn : Nat} {f : Nat → Int32} (hB : zSB d h a f cn G) {n : Nat} (hn : n ≤ 16) : zMet g0 d l y_AB_ensureCapacityInternal c_AB_ensureCapacityInternal 3 ((Option.none : Option Jvm.ClassFile.FieldType)) 1 0 0 [.ref h, .int (nI n)] (G) (zEq none G) (zNo) := by
  obtain ⟨⟨ml, hG_SB⟩, hG_a, hfit⟩ := id hB
  have nha : h ≠ a := fun e => by rw [e, hG_a] at hG_SB; cases hG_SB
  refine z_entry hs0 hst (by decide) (Nat.le_of_ble_eq_true rfl) (fun p e s m args below meth c => ?_)
  refine z_aload_n 0 d_AB_ensureCapacityInternal_0 rfl rfl ?_
  refine z_get zc_SB 0 (by decide) qF_AB_15 hG_SB rfl d_AB_ensureCapacityInternal_1 ?_
  refine z_alenB hG_a d_AB_ensureCapacityInternal_4 ?_
  refine z_aload_n 0 d_AB_ensureCapacityInternal_5 rfl rfl ?_
  refine z_get zc_SB 1 (by decide) qF_AB_22 hG_SB rfl d_AB_ensureCapacityInternal_6 ?_
  refine z_ishr d_AB_ensureCapacityInternal_9 ?_
  refine z_topv (v := nI 16) (by decide) ?_
  refine z_istore_n (L' := [(2, _), (0, _), (1, _)]) d_AB_ensureCapacityInternal_10 rfl (by decide) rfl ?_
  refine z_iload_n 2 d_AB_ensureCapacityInternal_11 rfl rfl ?_
  refine z_iload_n 0 d_AB_ensureCapacityInternal_12 rfl rfl ?_
  refine z_isub d_AB_ensureCapacityInternal_13 ?_
  refine z_if_le 38 d_AB_ensureCapacityInternal_14 (by decide) (fun c_14 => ?_) (fun c_14 => absurd ((by decide : ∀ n, n < 17 → nI n - nI 16 ≤ 0) n (by omega)) c_14)
  exact z_vret rfl (⟨rfl, rfl⟩) (by first | decide | omega) (by first | decide | omega) d_AB_ensureCapacityInternal_38
theorem d_SL_canEncode_0 : decode c_SL_canEncode 0 = .ok (.iload_n 0, 1) := by decide +kernel
theorem d_SL_canEncode_1 : decode c_SL_canEncode 1 = .ok (.sipush 255, 3) := by decide +kernel
theorem d_SL_canEncode_4 : decode c_SL_canEncode 4 = .ok (.if_icmp .gt 7, 3) := by decide +kernel
theorem d_SL_canEncode_7 : decode c_SL_canEncode 7 = .ok (.iconst 1, 1) := by decide +kernel
theorem d_SL_canEncode_8 : decode c_SL_canEncode 8 = .ok (.goto 4, 3) := by decide +kernel
theorem d_SL_canEncode_12 : decode c_SL_canEncode 12 = .ok (.ireturn, 1) := by decide +kernel
set_option maxHeartbeats 4000000 in
set_option maxRecDepth 100000 in
theorem m_SL_canEncode {g0 : State} {d : zD} {l : Launch} {a0 : Array Value} (hs0 : zS0 d a0 g0) (hst : l.stackTraces = false) {G : zG} {x : Int32} (hx : ¬ 255 < x) : zMet g0 d l y_SL_canEncode c_SL_canEncode 1 ((Option.some Jvm.ClassFile.FieldType.boolean)) 1 0 0 [.int x] (G) (zEq (some (.int 1)) G) (zNo) := by
  refine z_entry hs0 hst (by decide) (Nat.le_of_ble_eq_true rfl) (fun p e s m args below meth c => ?_)
  refine z_iload_n 0 d_SL_canEncode_0 rfl rfl ?_
  refine z_sipush (v := 255) d_SL_canEncode_1 (by decide) ?_
  refine z_icmp_gt 11 d_SL_canEncode_4 (by decide) (fun c_4 => absurd c_4 hx) (fun c_4 => ?_)
  refine z_iconst (v := 1) d_SL_canEncode_7 (by decide) ?_
  refine z_goto 12 d_SL_canEncode_8 (by decide) ?_
  exact z_zret rfl (by first | rfl | exact zb_nar _) (⟨rfl, rfl⟩) (by first | decide | omega) (by first | decide | omega) d_SL_canEncode_12
theorem d_AB_append_1_0 : decode c_AB_append_1 0 = .ok (.aload_n 0, 1) := by decide +kernel
theorem d_AB_append_1_1 : decode c_AB_append_1 1 = .ok (.aload_n 0, 1) := by decide +kernel
theorem d_AB_append_1_2 : decode c_AB_append_1 2 = .ok (.getfield 79, 3) := by decide +kernel
theorem d_AB_append_1_5 : decode c_AB_append_1 5 = .ok (.iconst 1, 1) := by decide +kernel
theorem d_AB_append_1_6 : decode c_AB_append_1 6 = .ok (.iadd, 1) := by decide +kernel
theorem d_AB_append_1_7 : decode c_AB_append_1 7 = .ok (.invokevirtual 100, 3) := by decide +kernel
theorem d_AB_append_1_10 : decode c_AB_append_1 10 = .ok (.aload_n 0, 1) := by decide +kernel
theorem d_AB_append_1_11 : decode c_AB_append_1 11 = .ok (.invokevirtual 83, 3) := by decide +kernel
theorem d_AB_append_1_14 : decode c_AB_append_1 14 = .ok (.ifCond .eq 31, 3) := by decide +kernel
theorem d_AB_append_1_17 : decode c_AB_append_1 17 = .ok (.iload_n 1, 1) := by decide +kernel
theorem d_AB_append_1_18 : decode c_AB_append_1 18 = .ok (.invokestatic 191, 3) := by decide +kernel
theorem d_AB_append_1_21 : decode c_AB_append_1 21 = .ok (.ifCond .eq 24, 3) := by decide +kernel
theorem d_AB_append_1_24 : decode c_AB_append_1 24 = .ok (.aload_n 0, 1) := by decide +kernel
theorem d_AB_append_1_25 : decode c_AB_append_1 25 = .ok (.getfield 15, 3) := by decide +kernel
theorem d_AB_append_1_28 : decode c_AB_append_1 28 = .ok (.aload_n 0, 1) := by decide +kernel
theorem d_AB_append_1_29 : decode c_AB_append_1 29 = .ok (.dup, 1) := by decide +kernel
theorem d_AB_append_1_30 : decode c_AB_append_1 30 = .ok (.getfield 79, 3) := by decide +kernel
theorem d_AB_append_1_33 : decode c_AB_append_1 33 = .ok (.dup_x1, 1) := by decide +kernel
theorem d_AB_append_1_34 : decode c_AB_append_1 34 = .ok (.iconst 1, 1) := by decide +kernel
theorem d_AB_append_1_35 : decode c_AB_append_1 35 = .ok (.iadd, 1) := by decide +kernel
theorem d_AB_append_1_36 : decode c_AB_append_1 36 = .ok (.putfield 79, 3) := by decide +kernel
theorem d_AB_append_1_39 : decode c_AB_append_1 39 = .ok (.iload_n 1, 1) := by decide +kernel
theorem d_AB_append_1_40 : decode c_AB_append_1 40 = .ok (.i2b, 1) := by decide +kernel
theorem d_AB_append_1_41 : decode c_AB_append_1 41 = .ok (.bastore, 1) := by decide +kernel
theorem d_AB_append_1_42 : decode c_AB_append_1 42 = .ok (.goto 33, 3) := by decide +kernel
theorem d_AB_append_1_75 : decode c_AB_append_1 75 = .ok (.aload_n 0, 1) := by decide +kernel
theorem d_AB_append_1_76 : decode c_AB_append_1 76 = .ok (.areturn, 1) := by decide +kernel
set_option maxHeartbeats 4000000 in
set_option maxRecDepth 100000 in
theorem m_AB_append_1 {g0 : State} {d : zD} {l : Launch} {a0 : Array Value} (hs0 : zS0 d a0 g0) (hst : l.stackTraces = false) {G : zG} {h a cn : Nat} {f : Nat → Int32} (hB : zSB d h a f cn G) (hc16 : cn < 16) {x : Int32} (hx : ¬ 255 < x) : zMet g0 d l y_AB_append_1 c_AB_append_1 2 ((Option.some (Jvm.ClassFile.FieldType.object "java/lang/AbstractStringBuilder"))) 3 0 0 [.ref h, .int x] (G) (fun r G1 => r = some (.ref h) ∧ (∃ f', zSB d h a f' (cn + 1) G1) ∧ zK2 h a G G1) (zNo) := by
  obtain ⟨⟨ml, hG_SB⟩, hG_a, hfit⟩ := id hB
  have nha : h ≠ a := fun e => by rw [e, hG_a] at hG_SB; cases hG_SB
  refine z_entry hs0 hst (by decide) (Nat.le_of_ble_eq_true rfl) (fun p e s m args below meth c => ?_)
  refine z_aload_n 0 d_AB_append_1_0 rfl rfl ?_
  refine z_aload_n 0 d_AB_append_1_1 rfl rfl ?_
  refine z_get zc_SB 3 (by decide) qF_AB_79 hG_SB rfl d_AB_append_1_2 ?_
  refine z_iconst (v := 1) d_AB_append_1_5 (by decide) ?_
  refine z_iadd d_AB_append_1_6 ?_
  refine z_topv (v := nI (cn + 1)) (nI_1 cn) ?_
  refine z_callVC (C := "java/lang/StringBuilder") (m_AB_ensureCapacityInternal hs0 hst hB (n := cn + 1) (by omega)) ym_AB_ensureCapacityInternal qM_AB_100 qI_AB_ensureCapacityInternal (fun hc => z_selP (b2 := c_AB_ensureCapacityInternal) (n2 := 3) (r2 := none) qV_SB_AB_isLatin1 rfl qPr_eci qI_AB_ensureCapacityInternal ⟨by decide, by decide⟩ hc (fun a => hc.priv qPr_eci a)) zc_SB hG_SB d_AB_append_1_7 rfl (Nat.le_of_ble_eq_true rfl) ⟨Nat.zero_le _, Nat.zero_le _⟩ ⟨Nat.le_of_ble_eq_true rfl, Nat.le_of_ble_eq_true rfl⟩ (fun _ _ hx => hx.elim) (fun r_7 G_7 hp_7 => ?_)
  obtain ⟨hr_7, hg_7⟩ := hp_7
  obtain rfl : r_7 = _ := hr_7
  obtain rfl : G = G_7 := hg_7.symm
  refine z_aload_n 0 d_AB_append_1_10 rfl rfl ?_
  refine z_callVC (C := "java/lang/StringBuilder") (m_AB_isLatin1 hs0 hst hG_SB) ym_AB_isLatin1 qM_AB_83 qI_AB_isLatin1 (fun hc => hc.w qV_SB_AB_isLatin1 rfl _) zc_SB hG_SB d_AB_append_1_11 rfl (Nat.le_of_ble_eq_true rfl) ⟨Nat.zero_le _, Nat.zero_le _⟩ ⟨Nat.le_of_ble_eq_true rfl, Nat.le_of_ble_eq_true rfl⟩ (fun _ _ hx => hx.elim) (fun r_11 G_11 hp_11 => ?_)
  obtain ⟨hr_11, hg_11⟩ := hp_11
  obtain rfl : r_11 = _ := hr_11
  obtain rfl : G = G_11 := hg_11.symm
  refine z_if_eq 45 d_AB_append_1_14 (by decide) (fun c_14 => absurd c_14 (by decide)) (fun c_14 => ?_)
  refine z_iload_n 1 d_AB_append_1_17 rfl rfl ?_
  refine z_callS0 (m_SL_canEncode hs0 hst hx) ym_SL_canEncode qM_AB_191 qS_SL_canEncode d_AB_append_1_18 rfl (Nat.le_of_ble_eq_true rfl) ⟨Nat.zero_le _, Nat.zero_le _⟩ ⟨Nat.le_of_ble_eq_true rfl, Nat.le_of_ble_eq_true rfl⟩ ?_
  refine z_if_eq 45 d_AB_append_1_21 (by decide) (fun c_21 => absurd c_21 (by decide)) (fun c_21 => ?_)
  refine z_aload_n 0 d_AB_append_1_24 rfl rfl ?_
  refine z_get zc_SB 0 (by decide) qF_AB_15 hG_SB rfl d_AB_append_1_25 ?_
  refine z_aload_n 0 d_AB_append_1_28 rfl rfl ?_
  refine z_dup d_AB_append_1_29 rfl ?_
  refine z_get zc_SB 3 (by decide) qF_AB_79 hG_SB rfl d_AB_append_1_30 ?_
  refine z_dup_x1 d_AB_append_1_33 rfl rfl ?_
  refine z_iconst (v := 1) d_AB_append_1_34 (by decide) ?_
  refine z_iadd d_AB_append_1_35 ?_
  refine z_topv (v := nI (cn + 1)) (nI_1 cn) ?_
  refine z_put zc_SB 3 (by decide) qF_AB_79 hG_SB rfl rfl rfl (Nat.le_of_ble_eq_true rfl) d_AB_append_1_36 ?_
  have hG_a2 := (zu_n (v := zob 1 [.ref a, .int 0, .int ml, .int (nI (cn + 1))]) nha.symm).trans hG_a
  refine z_iload_n 1 d_AB_append_1_39 rfl rfl ?_
  refine z_i2b d_AB_append_1_40 rfl ?_
  refine z_bast hG_a2 (vp_in_nI hc16 (by decide)) d_AB_append_1_41 ?_
  refine z_goto 75 d_AB_append_1_42 (by decide) ?_
  refine z_aload_n 0 d_AB_append_1_75 rfl rfl ?_
  exact z_aret rfl (Or.inl ⟨_, rfl⟩) (Or.inr ⟨_, rfl⟩) (⟨rfl, ⟨_, ⟨ml, (zu_n nha).trans zu_s⟩, zu_s, fun i hi => by
      unfold upd
      by_cases e : i = (nI cn).toNatClampNeg
      · rw [if_pos e]; exact zbf _
      · rw [if_neg e]; exact hfit i hi⟩, fun q v hq h1 h2 => by rw [zu_n h2, zu_n h1]; exact hq⟩) (by first | decide | omega) (by first | decide | omega) d_AB_append_1_76
theorem d_SB_append_1_0 : decode c_SB_append_1 0 = .ok (.aload_n 0, 1) := by decide +kernel
theorem d_SB_append_1_1 : decode c_SB_append_1 1 = .ok (.iload_n 1, 1) := by decide +kernel
theorem d_SB_append_1_2 : decode c_SB_append_1 2 = .ok (.invokespecial 50, 3) := by decide +kernel
theorem d_SB_append_1_5 : decode c_SB_append_1 5 = .ok (.pop, 1) := by decide +kernel
theorem d_SB_append_1_6 : decode c_SB_append_1 6 = .ok (.aload_n 0, 1) := by decide +kernel
theorem d_SB_append_1_7 : decode c_SB_append_1 7 = .ok (.areturn, 1) := by decide +kernel
set_option maxHeartbeats 4000000 in
set_option maxRecDepth 100000 in
theorem m_SB_append_1 {g0 : State} {d : zD} {l : Launch} {a0 : Array Value} (hs0 : zS0 d a0 g0) (hst : l.stackTraces = false) {G : zG} {h a cn : Nat} {f : Nat → Int32} (hB : zSB d h a f cn G) (hc16 : cn < 16) {x : Int32} (hx : ¬ 255 < x) : zMet g0 d l y_SB_append_1 c_SB_append_1 2 ((Option.some (Jvm.ClassFile.FieldType.object "java/lang/StringBuilder"))) 4 0 0 [.ref h, .int x] (G) (fun r G1 => r = some (.ref h) ∧ (∃ f', zSB d h a f' (cn + 1) G1) ∧ zK2 h a G G1) (zNo) := by
  obtain ⟨⟨ml, hG_SB⟩, hG_a, hfit⟩ := id hB
  have nha : h ≠ a := fun e => by rw [e, hG_a] at hG_SB; cases hG_SB
  refine z_entry hs0 hst (by decide) (Nat.le_of_ble_eq_true rfl) (fun p e s m args below meth c => ?_)
  refine z_aload_n 0 d_SB_append_1_0 rfl rfl ?_
  refine z_iload_n 1 d_SB_append_1_1 rfl rfl ?_
  refine z_callSU (m_AB_append_1 hs0 hst hB hc16 hx) ym_AB_append_1 (by decide) qM_SB_50 qSm_AB_javalangAbstractStringBuilder_append_CLjavalangAbstractStringBuilder qSc_SB_AB qI_AB_append_1 zc_SB hG_SB d_SB_append_1_2 rfl (Nat.le_of_ble_eq_true rfl) ⟨Nat.zero_le _, Nat.zero_le _⟩ ⟨Nat.le_of_ble_eq_true rfl, Nat.le_of_ble_eq_true rfl⟩ (fun _ _ hx => hx.elim) (fun r_2 G_2 hp_2 => ?_)
  obtain ⟨rfl, hp2, hp3⟩ := hp_2
  refine z_pop d_SB_append_1_5 rfl ?_
  refine z_aload_n 0 d_SB_append_1_6 rfl rfl ?_
  exact z_aret rfl (Or.inl ⟨_, rfl⟩) (Or.inr ⟨_, rfl⟩) (⟨rfl, hp2, hp3⟩) (by first | decide | omega) (by first | decide | omega) d_SB_append_1_7
theorem d_AB_init_0 : decode c_AB_init 0 = .ok (.aload_n 0, 1) := by decide +kernel
theorem d_AB_init_1 : decode c_AB_init 1 = .ok (.invokespecial 3, 3) := by decide +kernel
theorem d_AB_init_4 : decode c_AB_init 4 = .ok (.getstatic 18, 3) := by decide +kernel
theorem d_AB_init_7 : decode c_AB_init 7 = .ok (.ifCond .eq 18, 3) := by decide +kernel
theorem d_AB_init_10 : decode c_AB_init 10 = .ok (.aload_n 0, 1) := by decide +kernel
theorem d_AB_init_11 : decode c_AB_init 11 = .ok (.iload_n 1, 1) := by decide +kernel
theorem d_AB_init_12 : decode c_AB_init 12 = .ok (.newarray .byte, 2) := by decide +kernel
theorem d_AB_init_14 : decode c_AB_init 14 = .ok (.putfield 15, 3) := by decide +kernel
theorem d_AB_init_17 : decode c_AB_init 17 = .ok (.aload_n 0, 1) := by decide +kernel
theorem d_AB_init_18 : decode c_AB_init 18 = .ok (.iconst 0, 1) := by decide +kernel
theorem d_AB_init_19 : decode c_AB_init 19 = .ok (.putfield 22, 3) := by decide +kernel
theorem d_AB_init_22 : decode c_AB_init 22 = .ok (.goto 16, 3) := by decide +kernel
theorem d_AB_init_38 : decode c_AB_init 38 = .ok (.return_, 1) := by decide +kernel
set_option maxHeartbeats 4000000 in
set_option maxRecDepth 100000 in
theorem m_AB_init {g0 : State} {d : zD} {l : Launch} {a0 : Array Value} (hs0 : zS0 d a0 g0) (hst : l.stackTraces = false) {G : zG} {h : Nat} (hG_SB : G h = some (zob 1 [.null, .int 0, .int 0, .int 0])) : zMet g0 d l y_AB_init c_AB_init 2 ((Option.none : Option Jvm.ClassFile.FieldType)) 1 1 16 [.ref h, .int 16] (G) (fun r G1 => r = none ∧ ∃ a, G a = none ∧ zSB d h a (fun _ => 0) 0 G1 ∧ zK2 h a G G1) (zNo) := by
  refine z_entry hs0 hst (by decide) (Nat.le_of_ble_eq_true rfl) (fun p e s m args below meth c => ?_)
  refine z_aload_n 0 d_AB_init_0 rfl rfl ?_
  refine z_objInit qM_AB_3 qI_Oj_init_0566 qC_Oj_init_0566 d_AB_init_1 (by decide) ⟨by decide, by decide⟩ ?_
  refine z_getsCS qF_AB_18 d_AB_init_4 ?_
  refine z_if_eq 25 d_AB_init_7 (by decide) (fun c_7 => absurd c_7 (by decide)) (fun c_7 => ?_)
  refine z_aload_n 0 d_AB_init_10 rfl rfl ?_
  refine z_iload_n 1 d_AB_init_11 rfl rfl ?_
  refine z_newaB 16 qA_byte (by decide) rfl (by decide) ⟨by decide, by decide⟩ d_AB_init_12 (fun a ha hb => ?_)
  have nha := ne_of_none hG_SB ha
  have hG_SB := (zu_n (v := zBy d 16 (fun _ => 0)) nha).trans hG_SB
  refine z_put zc_SB 0 (by decide) qF_AB_15 hG_SB rfl rfl rfl (Nat.le_of_ble_eq_true rfl) d_AB_init_14 ?_
  have hG_SB := zu_s (G := zu G a (zBy d 16 (fun _ => 0))) (a := h) (v := zob 1 [.ref a, .int 0, .int 0, .int 0])
  refine z_aload_n 0 d_AB_init_17 rfl rfl ?_
  refine z_iconst (v := 0) d_AB_init_18 (by decide) ?_
  refine z_put zc_SB 1 (by decide) qF_AB_22 hG_SB rfl rfl rfl (Nat.le_of_ble_eq_true rfl) d_AB_init_19 ?_
  rw [zu_zu]
  refine z_goto 38 d_AB_init_22 (by decide) ?_
  exact z_vret rfl (⟨rfl, a, ha, ⟨⟨0, zu_s⟩, (zu_n nha.symm).trans zu_s, fun i _ => rfl⟩, fun q v hq h1 h2 => by rw [zu_n h1, zu_n h2]; exact hq⟩) (by first | decide | omega) (by first | decide | omega) d_AB_init_38
theorem d_SB_init_0 : decode c_SB_init 0 = .ok (.aload_n 0, 1) := by decide +kernel
theorem d_SB_init_1 : decode c_SB_init 1 = .ok (.bipush 16, 2) := by decide +kernel
theorem d_SB_init_3 : decode c_SB_init 3 = .ok (.invokespecial 1, 3) := by decide +kernel
theorem d_SB_init_6 : decode c_SB_init 6 = .ok (.return_, 1) := by decide +kernel
set_option maxHeartbeats 4000000 in
set_option maxRecDepth 100000 in
theorem m_SB_init {g0 : State} {d : zD} {l : Launch} {a0 : Array Value} (hs0 : zS0 d a0 g0) (hst : l.stackTraces = false) {G : zG} {h : Nat} (hG_SB : G h = some (zob 1 [.null, .int 0, .int 0, .int 0])) : zMet g0 d l y_SB_init c_SB_init 1 ((Option.none : Option Jvm.ClassFile.FieldType)) 2 1 16 [.ref h] (G) (fun r G1 => r = none ∧ ∃ a, G a = none ∧ zSB d h a (fun _ => 0) 0 G1 ∧ zK2 h a G G1) (zNo) := by
  refine z_entry hs0 hst (by decide) (Nat.le_of_ble_eq_true rfl) (fun p e s m args below meth c => ?_)
  refine z_aload_n 0 d_SB_init_0 rfl rfl ?_
  refine z_bipush (v := 16) d_SB_init_1 (by decide) ?_
  refine z_callIp1 (m_AB_init hs0 hst hG_SB) ym_AB_init rfl qM_SB_1 qI_AB_init d_SB_init_3 rfl (Nat.le_of_ble_eq_true rfl) ⟨by decide, by decide⟩ ⟨Nat.le_of_ble_eq_true rfl, Nat.le_of_ble_eq_true rfl⟩ (fun r_3 G_3 hp_3 => ?_)
  obtain ⟨rfl, hp3⟩ := hp_3
  exact z_vret rfl (⟨rfl, hp3⟩) (by first | decide | omega) (by first | decide | omega) d_SB_init_6
theorem d_AB_getValue_0 : decode c_AB_getValue 0 = .ok (.aload_n 0, 1) := by decide +kernel
theorem d_AB_getValue_1 : decode c_AB_getValue 1 = .ok (.getfield 15, 3) := by decide +kernel
theorem d_AB_getValue_4 : decode c_AB_getValue 4 = .ok (.areturn, 1) := by decide +kernel
set_option maxHeartbeats 4000000 in
set_option maxRecDepth 100000 in
theorem m_AB_getValue {g0 : State} {d : zD} {l : Launch} {a0 : Array Value} (hs0 : zS0 d a0 g0) (hst : l.stackTraces = false) {G : zG} {h a cn : Nat} {f : Nat → Int32} (hB : zSB d h a f cn G) : zMet g0 d l y_AB_getValue c_AB_getValue 1 ((Option.some (Jvm.ClassFile.FieldType.array Jvm.ClassFile.FieldType.byte))) 1 0 0 [.ref h] (G) (zEq (some (.ref a)) G) (zNo) := by
  obtain ⟨⟨ml, hG_SB⟩, hG_a, hfit⟩ := id hB
  have nha : h ≠ a := fun e => by rw [e, hG_a] at hG_SB; cases hG_SB
  refine z_entry hs0 hst (by decide) (Nat.le_of_ble_eq_true rfl) (fun p e s m args below meth c => ?_)
  refine z_aload_n 0 d_AB_getValue_0 rfl rfl ?_
  refine z_get zc_SB 0 (by decide) qF_AB_15 hG_SB rfl d_AB_getValue_1 ?_
  exact z_aret rfl (Or.inr ⟨_, rfl⟩) (Or.inr ⟨_, rfl⟩) (⟨rfl, rfl⟩) (by first | decide | omega) (by first | decide | omega) d_AB_getValue_4
theorem d_AB_length_0 : decode c_AB_length 0 = .ok (.aload_n 0, 1) := by decide +kernel
theorem d_AB_length_1 : decode c_AB_length 1 = .ok (.getfield 79, 3) := by decide +kernel
theorem d_AB_length_4 : decode c_AB_length 4 = .ok (.ireturn, 1) := by decide +kernel
set_option maxHeartbeats 4000000 in
set_option maxRecDepth 100000 in
theorem m_AB_length {g0 : State} {d : zD} {l : Launch} {a0 : Array Value} (hs0 : zS0 d a0 g0) (hst : l.stackTraces = false) {G : zG} {h a cn : Nat} {f : Nat → Int32} (hB : zSB d h a f cn G) : zMet g0 d l y_AB_length c_AB_length 1 ((Option.some Jvm.ClassFile.FieldType.int)) 1 0 0 [.ref h] (G) (zEq (some (.int (nI cn))) G) (zNo) := by
  obtain ⟨⟨ml, hG_SB⟩, hG_a, hfit⟩ := id hB
  have nha : h ≠ a := fun e => by rw [e, hG_a] at hG_SB; cases hG_SB
  refine z_entry hs0 hst (by decide) (Nat.le_of_ble_eq_true rfl) (fun p e s m args below meth c => ?_)
  refine z_aload_n 0 d_AB_length_0 rfl rfl ?_
  refine z_get zc_SB 3 (by decide) qF_AB_79 hG_SB rfl d_AB_length_1 ?_
  exact z_iret rfl (⟨rfl, rfl⟩) (by first | decide | omega) (by first | decide | omega) d_AB_length_4
theorem d_SB_length_0 : decode c_SB_length 0 = .ok (.aload_n 0, 1) := by decide +kernel
theorem d_SB_length_1 : decode c_SB_length 1 = .ok (.invokespecial 343, 3) := by decide +kernel
theorem d_SB_length_4 : decode c_SB_length 4 = .ok (.ireturn, 1) := by decide +kernel
set_option maxHeartbeats 4000000 in
set_option maxRecDepth 100000 in
theorem m_SB_length {g0 : State} {d : zD} {l : Launch} {a0 : Array Value} (hs0 : zS0 d a0 g0) (hst : l.stackTraces = false) {G : zG} {h a cn : Nat} {f : Nat → Int32} (hB : zSB d h a f cn G) : zMet g0 d l y_SB_length c_SB_length 1 ((Option.some Jvm.ClassFile.FieldType.int)) 2 0 0 [.ref h] (G) (zEq (some (.int (nI cn))) G) (zNo) := by
  obtain ⟨⟨ml, hG_SB⟩, hG_a, hfit⟩ := id hB
  have nha : h ≠ a := fun e => by rw [e, hG_a] at hG_SB; cases hG_SB
  refine z_entry hs0 hst (by decide) (Nat.le_of_ble_eq_true rfl) (fun p e s m args below meth c => ?_)
  refine z_aload_n 0 d_SB_length_0 rfl rfl ?_
  refine z_callSU (m_AB_length hs0 hst hB) ym_AB_length (by decide) qM_SB_343 qSm_AB_javalangAbstractStringBuilder_length_I qSc_SB_AB qI_AB_length zc_SB hG_SB d_SB_length_1 rfl (Nat.le_of_ble_eq_true rfl) ⟨Nat.zero_le _, Nat.zero_le _⟩ ⟨Nat.le_of_ble_eq_true rfl, Nat.le_of_ble_eq_true rfl⟩ (fun _ _ hx => hx.elim) (fun r_1 G_1 hp_1 => ?_)
  obtain ⟨hr_1, hg_1⟩ := hp_1
  obtain rfl : r_1 = _ := hr_1
  obtain rfl : G = G_1 := hg_1.symm
  exact z_iret rfl (⟨rfl, rfl⟩) (by first | decide | omega) (by first | decide | omega) d_SB_length_4
theorem d_Ar_checkLength_0 : decode c_Ar_checkLength 0 = .ok (.iload_n 1, 1) := by decide +kernel
theorem d_Ar_checkLength_1 : decode c_Ar_checkLength 1 = .ok (.iload_n 0, 1) := by decide +kernel
theorem d_Ar_checkLength_2 : decode c_Ar_checkLength 2 = .ok (.if_icmp .ge 35, 3) := by decide +kernel
theorem d_Ar_checkLength_37 : decode c_Ar_checkLength 37 = .ok (.return_, 1) := by decide +kernel
set_option maxHeartbeats 4000000 in
set_option maxRecDepth 100000 in
theorem m_Ar_checkLength {g0 : State} {d : zD} {l : Launch} {a0 : Array Value} (hs0 : zS0 d a0 g0) (hst : l.stackTraces = false) {G : zG} {n : Nat} (hn : n < 2 ^ 31) : zMet g0 d l y_Ar_checkLength c_Ar_checkLength 2 ((Option.none : Option Jvm.ClassFile.FieldType)) 1 0 0 [.int 0, .int (nI n)] (G) (zEq none G) (zNo) := by
  refine z_entry hs0 hst (by decide) (Nat.le_of_ble_eq_true rfl) (fun p e s m args below meth c => ?_)
  refine z_iload_n 1 d_Ar_checkLength_0 rfl rfl ?_
  refine z_iload_n 0 d_Ar_checkLength_1 rfl rfl ?_
  refine z_icmp_ge 37 d_Ar_checkLength_2 (by decide) (fun c_2 => ?_) (fun c_2 => absurd (Int32.not_lt.mp (nI_pos hn)) c_2)
  exact z_vret rfl (⟨rfl, rfl⟩) (by first | decide | omega) (by first | decide | omega) d_Ar_checkLength_37
theorem d_Ar_copyOfRangeByte_0 : decode c_Ar_copyOfRangeByte 0 = .ok (.iload_n 1, 1) := by decide +kernel
theorem d_Ar_copyOfRangeByte_1 : decode c_Ar_copyOfRangeByte 1 = .ok (.iload_n 2, 1) := by decide +kernel
theorem d_Ar_copyOfRangeByte_2 : decode c_Ar_copyOfRangeByte 2 = .ok (.invokestatic 343, 3) := by decide +kernel
theorem d_Ar_copyOfRangeByte_5 : decode c_Ar_copyOfRangeByte 5 = .ok (.iload_n 2, 1) := by decide +kernel
theorem d_Ar_copyOfRangeByte_6 : decode c_Ar_copyOfRangeByte 6 = .ok (.iload_n 1, 1) := by decide +kernel
theorem d_Ar_copyOfRangeByte_7 : decode c_Ar_copyOfRangeByte 7 = .ok (.isub, 1) := by decide +kernel
theorem d_Ar_copyOfRangeByte_8 : decode c_Ar_copyOfRangeByte 8 = .ok (.istore_n 3, 1) := by decide +kernel
theorem d_Ar_copyOfRangeByte_9 : decode c_Ar_copyOfRangeByte 9 = .ok (.iload_n 3, 1) := by decide +kernel
theorem d_Ar_copyOfRangeByte_10 : decode c_Ar_copyOfRangeByte 10 = .ok (.newarray .byte, 2) := by decide +kernel
theorem d_Ar_copyOfRangeByte_12 : decode c_Ar_copyOfRangeByte 12 = .ok (.astore 4, 2) := by decide +kernel
theorem d_Ar_copyOfRangeByte_14 : decode c_Ar_copyOfRangeByte 14 = .ok (.aload_n 0, 1) := by decide +kernel
theorem d_Ar_copyOfRangeByte_15 : decode c_Ar_copyOfRangeByte 15 = .ok (.iload_n 1, 1) := by decide +kernel
theorem d_Ar_copyOfRangeByte_16 : decode c_Ar_copyOfRangeByte 16 = .ok (.aload 4, 2) := by decide +kernel
theorem d_Ar_copyOfRangeByte_18 : decode c_Ar_copyOfRangeByte 18 = .ok (.iconst 0, 1) := by decide +kernel
theorem d_Ar_copyOfRangeByte_19 : decode c_Ar_copyOfRangeByte 19 = .ok (.aload_n 0, 1) := by decide +kernel
theorem d_Ar_copyOfRangeByte_20 : decode c_Ar_copyOfRangeByte 20 = .ok (.arraylength, 1) := by decide +kernel
theorem d_Ar_copyOfRangeByte_21 : decode c_Ar_copyOfRangeByte 21 = .ok (.iload_n 1, 1) := by decide +kernel
theorem d_Ar_copyOfRangeByte_22 : decode c_Ar_copyOfRangeByte 22 = .ok (.isub, 1) := by decide +kernel
theorem d_Ar_copyOfRangeByte_23 : decode c_Ar_copyOfRangeByte 23 = .ok (.iload_n 3, 1) := by decide +kernel
theorem d_Ar_copyOfRangeByte_24 : decode c_Ar_copyOfRangeByte 24 = .ok (.invokestatic 304, 3) := by decide +kernel
theorem d_Ar_copyOfRangeByte_27 : decode c_Ar_copyOfRangeByte 27 = .ok (.invokestatic 150, 3) := by decide +kernel
theorem d_Ar_copyOfRangeByte_30 : decode c_Ar_copyOfRangeByte 30 = .ok (.aload 4, 2) := by decide +kernel
theorem d_Ar_copyOfRangeByte_32 : decode c_Ar_copyOfRangeByte 32 = .ok (.areturn, 1) := by decide +kernel
set_option maxHeartbeats 4000000 in
set_option maxRecDepth 100000 in
theorem m_Ar_copyOfRangeByte {g0 : State} {d : zD} {l : Launch} {a0 : Array Value} (hs0 : zS0 d a0 g0) (hst : l.stackTraces = false) {G : zG} {a cn : Nat} {f : Nat → Int32} (hG_a : G a = some (zBy d 16 f)) (hfit : ∀ i, i < 16 → fits .byte (.int (f i)) = true) (hc16 : cn < 16) : zMet g0 d l y_Ar_copyOfRangeByte c_Ar_copyOfRangeByte 5 ((Option.some (Jvm.ClassFile.FieldType.array Jvm.ClassFile.FieldType.byte))) 3 1 16 [.ref a, .int 0, .int (nI cn)] (G) (fun r G1 => ∃ b g, G b = none ∧ r = some (.ref b) ∧ G1 = zu G b (zBy d cn g)) (zNo) := by
  refine z_entry hs0 hst (by decide) (Nat.le_of_ble_eq_true rfl) (fun p e s m args below meth c => ?_)
  refine z_iload_n 1 d_Ar_copyOfRangeByte_0 rfl rfl ?_
  refine z_iload_n 2 d_Ar_copyOfRangeByte_1 rfl rfl ?_
  refine z_callS0 (m_Ar_checkLength hs0 hst (n := cn) (by omega)) ym_Ar_checkLength qM_Ar_343 qS_Ar_checkLength d_Ar_copyOfRangeByte_2 rfl (Nat.le_of_ble_eq_true rfl) ⟨by decide, by decide⟩ ⟨Nat.le_of_ble_eq_true rfl, Nat.le_of_ble_eq_true rfl⟩ ?_
  refine z_iload_n 2 d_Ar_copyOfRangeByte_5 rfl rfl ?_
  refine z_iload_n 1 d_Ar_copyOfRangeByte_6 rfl rfl ?_
  refine z_isub d_Ar_copyOfRangeByte_7 ?_
  refine z_topv (v := nI cn) (Int32.sub_zero _) ?_
  refine z_istore_n (L' := [(3, _), (0, _), (1, _), (2, _)]) d_Ar_copyOfRangeByte_8 rfl (by decide) rfl ?_
  refine z_iload_n 0 d_Ar_copyOfRangeByte_9 rfl rfl ?_
  refine z_newaB cn qA_byte (nI_pos (by omega)) (nI_clamp (by omega)) (by show cn * 1 ≤ 536870912; omega) ⟨by decide, (by show 0 + cn ≤ 16; omega)⟩ d_Ar_copyOfRangeByte_10 (fun b hb hbb => ?_)
  have nab := ne_of_none hG_a hb
  have hG_a2 := (zu_n (v := zBy d cn (fun _ => 0)) nab).trans hG_a
  refine z_astore (L' := [(4, _), (3, _), (0, _), (1, _), (2, _)]) d_Ar_copyOfRangeByte_12 (by decide) rfl ?_
  refine z_aload_n 2 d_Ar_copyOfRangeByte_14 rfl rfl ?_
  refine z_iload_n 3 d_Ar_copyOfRangeByte_15 rfl rfl ?_
  refine z_aload 0 d_Ar_copyOfRangeByte_16 rfl ?_
  refine z_iconst (v := 0) d_Ar_copyOfRangeByte_18 (by decide) ?_
  refine z_aload_n 2 d_Ar_copyOfRangeByte_19 rfl rfl ?_
  refine z_alenB hG_a2 d_Ar_copyOfRangeByte_20 ?_
  refine z_iload_n 3 d_Ar_copyOfRangeByte_21 rfl rfl ?_
  refine z_isub d_Ar_copyOfRangeByte_22 ?_
  refine z_topv (v := nI 16) (by decide) ?_
  refine z_iload_n 1 d_Ar_copyOfRangeByte_23 rfl rfl ?_
  refine z_mmin qM_Ar_304 qS_Ma_min qN_Ma qC_Ma_min ⟨by decide, by decide⟩ (Nat.le_of_ble_eq_true rfl) ⟨by decide, (by show 0 + cn ≤ 16; omega)⟩ d_Ar_copyOfRangeByte_24 ?_
  refine z_topv (v := nI cn) (by
    by_cases h : nI cn < nI 16
    · exact if_pos h
    · exact absurd ((nI_ltI (a := cn) (b := 16) (by omega) (by decide)).mpr hc16) h) ?_
  refine z_copyB qM_Ar_150 qNa_Sy_arraycopy_8b78 qS_Sy_arraycopy_8b78 qN_Sy hG_a2 zu_s (by omega) (show cn ≤ 16 by omega) (Nat.le_refl cn) hfit ⟨by decide, by decide⟩ (Nat.le_of_ble_eq_true rfl) d_Ar_copyOfRangeByte_27 ?_
  refine z_aload 0 d_Ar_copyOfRangeByte_30 rfl ?_
  exact z_aret rfl (Or.inr ⟨_, rfl⟩) (Or.inr ⟨_, rfl⟩) (⟨b, _, hb, rfl, by rw [zu_zu]⟩) (by first | decide | omega) (by first | decide | omega) d_Ar_copyOfRangeByte_32
theorem d_Ar_copyOfRange_0 : decode c_Ar_copyOfRange 0 = .ok (.iload_n 1, 1) := by decide +kernel
theorem d_Ar_copyOfRange_1 : decode c_Ar_copyOfRange 1 = .ok (.ifCond .ne 9, 3) := by decide +kernel
theorem d_Ar_copyOfRange_4 : decode c_Ar_copyOfRange 4 = .ok (.iload_n 2, 1) := by decide +kernel
theorem d_Ar_copyOfRange_5 : decode c_Ar_copyOfRange 5 = .ok (.aload_n 0, 1) := by decide +kernel
theorem d_Ar_copyOfRange_6 : decode c_Ar_copyOfRange 6 = .ok (.arraylength, 1) := by decide +kernel
theorem d_Ar_copyOfRange_7 : decode c_Ar_copyOfRange 7 = .ok (.if_icmp .eq 10, 3) := by decide +kernel
theorem d_Ar_copyOfRange_10 : decode c_Ar_copyOfRange 10 = .ok (.aload_n 0, 1) := by decide +kernel
theorem d_Ar_copyOfRange_11 : decode c_Ar_copyOfRange 11 = .ok (.iload_n 1, 1) := by decide +kernel
theorem d_Ar_copyOfRange_12 : decode c_Ar_copyOfRange 12 = .ok (.iload_n 2, 1) := by decide +kernel
theorem d_Ar_copyOfRange_13 : decode c_Ar_copyOfRange 13 = .ok (.invokestatic 339, 3) := by decide +kernel
theorem d_Ar_copyOfRange_16 : decode c_Ar_copyOfRange 16 = .ok (.areturn, 1) := by decide +kernel
set_option maxHeartbeats 4000000 in
set_option maxRecDepth 100000 in
theorem m_Ar_copyOfRange {g0 : State} {d : zD} {l : Launch} {a0 : Array Value} (hs0 : zS0 d a0 g0) (hst : l.stackTraces = false) {G : zG} {a cn : Nat} {f : Nat → Int32} (hG_a : G a = some (zBy d 16 f)) (hfit : ∀ i, i < 16 → fits .byte (.int (f i)) = true) (hc16 : cn < 16) : zMet g0 d l y_Ar_copyOfRange c_Ar_copyOfRange 3 ((Option.some (Jvm.ClassFile.FieldType.array Jvm.ClassFile.FieldType.byte))) 4 1 16 [.ref a, .int 0, .int (nI cn)] (G) (fun r G1 => ∃ b g, G b = none ∧ r = some (.ref b) ∧ G1 = zu G b (zBy d cn g)) (zNo) := by
  refine z_entry hs0 hst (by decide) (Nat.le_of_ble_eq_true rfl) (fun p e s m args below meth c => ?_)
  refine z_iload_n 1 d_Ar_copyOfRange_0 rfl rfl ?_
  refine z_if_ne 10 d_Ar_copyOfRange_1 (by decide) (fun c_1 => absurd rfl c_1) (fun c_1 => ?_)
  refine z_iload_n 2 d_Ar_copyOfRange_4 rfl rfl ?_
  refine z_aload_n 0 d_Ar_copyOfRange_5 rfl rfl ?_
  refine z_alenB hG_a d_Ar_copyOfRange_6 ?_
  refine z_icmp_eq 17 d_Ar_copyOfRange_7 (by decide) (fun c_7 => absurd ((nI_eq (a := cn) (b := 16) (by omega) (by decide)).mp c_7) (by omega)) (fun c_7 => ?_)
  refine z_aload_n 0 d_Ar_copyOfRange_10 rfl rfl ?_
  refine z_iload_n 1 d_Ar_copyOfRange_11 rfl rfl ?_
  refine z_iload_n 2 d_Ar_copyOfRange_12 rfl rfl ?_
  refine z_callSp1 (m_Ar_copyOfRangeByte hs0 hst hG_a hfit hc16) ym_Ar_copyOfRangeByte qM_Ar_339 qS_Ar_copyOfRangeByte d_Ar_copyOfRange_13 rfl (Nat.le_of_ble_eq_true rfl) ⟨by decide, by decide⟩ ⟨Nat.le_of_ble_eq_true rfl, Nat.le_of_ble_eq_true rfl⟩ (fun r_13 G_13 hp_13 => ?_)
  obtain ⟨b, g, hb, rfl, rfl⟩ := hp_13
  exact z_aret rfl (Or.inr ⟨_, rfl⟩) (Or.inr ⟨_, rfl⟩) (⟨b, g, hb, rfl, rfl⟩) (by first | decide | omega) (by first | decide | omega) d_Ar_copyOfRange_16
theorem d_St_init_1_0 : decode c_St_init_1 0 = .ok (.aload_n 0, 1) := by decide +kernel
theorem d_St_init_1_1 : decode c_St_init_1 1 = .ok (.invokespecial 1, 3) := by decide +kernel
theorem d_St_init_1_4 : decode c_St_init_1 4 = .ok (.aload_n 1, 1) := by decide +kernel
theorem d_St_init_1_5 : decode c_St_init_1 5 = .ok (.invokevirtual 552, 3) := by decide +kernel
theorem d_St_init_1_8 : decode c_St_init_1 8 = .ok (.astore_n 3, 1) := by decide +kernel
theorem d_St_init_1_9 : decode c_St_init_1 9 = .ok (.aload_n 1, 1) := by decide +kernel
theorem d_St_init_1_10 : decode c_St_init_1 10 = .ok (.invokevirtual 549, 3) := by decide +kernel
theorem d_St_init_1_13 : decode c_St_init_1 13 = .ok (.istore 4, 2) := by decide +kernel
theorem d_St_init_1_15 : decode c_St_init_1 15 = .ok (.aload_n 1, 1) := by decide +kernel
theorem d_St_init_1_16 : decode c_St_init_1 16 = .ok (.invokevirtual 1047, 3) := by decide +kernel
theorem d_St_init_1_19 : decode c_St_init_1 19 = .ok (.ifCond .eq 22, 3) := by decide +kernel
theorem d_St_init_1_22 : decode c_St_init_1 22 = .ok (.aload_n 0, 1) := by decide +kernel
theorem d_St_init_1_23 : decode c_St_init_1 23 = .ok (.iconst 0, 1) := by decide +kernel
theorem d_St_init_1_24 : decode c_St_init_1 24 = .ok (.putfield 15, 3) := by decide +kernel
theorem d_St_init_1_27 : decode c_St_init_1 27 = .ok (.aload_n 0, 1) := by decide +kernel
theorem d_St_init_1_28 : decode c_St_init_1 28 = .ok (.aload_n 3, 1) := by decide +kernel
theorem d_St_init_1_29 : decode c_St_init_1 29 = .ok (.iconst 0, 1) := by decide +kernel
theorem d_St_init_1_30 : decode c_St_init_1 30 = .ok (.iload 4, 2) := by decide +kernel
theorem d_St_init_1_32 : decode c_St_init_1 32 = .ok (.invokestatic 54, 3) := by decide +kernel
theorem d_St_init_1_35 : decode c_St_init_1 35 = .ok (.putfield 9, 3) := by decide +kernel
theorem d_St_init_1_38 : decode c_St_init_1 38 = .ok (.goto 59, 3) := by decide +kernel
theorem d_St_init_1_97 : decode c_St_init_1 97 = .ok (.return_, 1) := by decide +kernel
set_option maxHeartbeats 4000000 in
set_option maxRecDepth 100000 in
theorem m_St_init_1 {g0 : State} {d : zD} {l : Launch} {a0 : Array Value} (hs0 : zS0 d a0 g0) (hst : l.stackTraces = false) {G : zG} {h a cn : Nat} {f : Nat → Int32} (hB : zSB d h a f cn G) (hc16 : cn < 16) {s9 : Nat} (hG_St : G s9 = some (zob 0 [.null, .int 0, .int 0, .int 0])) : zMet g0 d l y_St_init_1 c_St_init_1 5 ((Option.none : Option Jvm.ClassFile.FieldType)) 5 1 16 [.ref s9, .ref h, .null] (G) (fun r G1 => r = none ∧ ∃ b, G b = none ∧ G1 s9 = some (zob 0 [.ref b, .int 0, .int 0, .int 0]) ∧ ∀ q v, G q = some v → q ≠ s9 → G1 q = some v) (zNo) := by
  obtain ⟨⟨ml, hG_SB⟩, hG_a, hfit⟩ := id hB
  have nha : h ≠ a := fun e => by rw [e, hG_a] at hG_SB; cases hG_SB
  refine z_entry hs0 hst (by decide) (Nat.le_of_ble_eq_true rfl) (fun p e s m args below meth c => ?_)
  refine z_aload_n 0 d_St_init_1_0 rfl rfl ?_
  refine z_objInit qM_St_1 qI_Oj_init_0566 qC_Oj_init_0566 d_St_init_1_1 (by decide) ⟨by decide, by decide⟩ ?_
  refine z_aload_n 1 d_St_init_1_4 rfl rfl ?_
  refine z_callVC (C := "java/lang/StringBuilder") (m_AB_getValue hs0 hst hB) ym_AB_getValue qM_St_552 qI_AB_getValue (fun hc => hc.w qV_SB_AB_getValue rfl _) zc_SB hG_SB d_St_init_1_5 rfl (Nat.le_of_ble_eq_true rfl) ⟨Nat.zero_le _, Nat.zero_le _⟩ ⟨Nat.le_of_ble_eq_true rfl, Nat.le_of_ble_eq_true rfl⟩ (fun _ _ hx => hx.elim) (fun r_5 G_5 hp_5 => ?_)
  obtain ⟨hr_5, hg_5⟩ := hp_5
  obtain rfl : r_5 = _ := hr_5
  obtain rfl : G = G_5 := hg_5.symm
  refine z_astore_n (L' := [(3, _), (0, _), (1, _), (2, _)]) d_St_init_1_8 rfl (by decide) rfl ?_
  refine z_aload_n 2 d_St_init_1_9 rfl rfl ?_
  refine z_callVU (C := "java/lang/StringBuilder") (m_SB_length hs0 hst hB) ym_SB_length qM_St_549 qSm_AB_javalangAbstractStringBuilder_length_I qI_AB_length qC_AB_length rfl ⟨by decide, by decide⟩ qV_SB_AB_length qI_SB_length zc_SB hG_SB d_St_init_1_10 rfl (Nat.le_of_ble_eq_true rfl) ⟨Nat.zero_le _, Nat.zero_le _⟩ ⟨Nat.le_of_ble_eq_true rfl, Nat.le_of_ble_eq_true rfl⟩ (fun _ _ hx => hx.elim) (fun r_10 G_10 hp_10 => ?_)
  obtain ⟨hr_10, hg_10⟩ := hp_10
  obtain rfl : r_10 = _ := hr_10
  obtain rfl : G = G_10 := hg_10.symm
  refine z_istore (L' := [(4, _), (3, _), (0, _), (1, _), (2, _)]) d_St_init_1_13 (by decide) rfl ?_
  refine z_aload_n 3 d_St_init_1_15 rfl rfl ?_
  refine z_callVC (C := "java/lang/StringBuilder") (m_AB_isLatin1 hs0 hst hG_SB) ym_AB_isLatin1 qM_St_1047 qI_AB_isLatin1 (fun hc => hc.w qV_SB_AB_isLatin1 rfl _) zc_SB hG_SB d_St_init_1_16 rfl (Nat.le_of_ble_eq_true rfl) ⟨Nat.zero_le _, Nat.zero_le _⟩ ⟨Nat.le_of_ble_eq_true rfl, Nat.le_of_ble_eq_true rfl⟩ (fun _ _ hx => hx.elim) (fun r_16 G_16 hp_16 => ?_)
  obtain ⟨hr_16, hg_16⟩ := hp_16
  obtain rfl : r_16 = _ := hr_16
  obtain rfl : G = G_16 := hg_16.symm
  refine z_if_eq 41 d_St_init_1_19 (by decide) (fun c_19 => absurd c_19 (by decide)) (fun c_19 => ?_)
  refine z_aload_n 2 d_St_init_1_22 rfl rfl ?_
  refine z_iconst (v := 0) d_St_init_1_23 (by decide) ?_
  refine z_putF zc_St 1 (by decide) qF_St_15 hG_St rfl rfl rfl rfl rfl (Nat.le_of_ble_eq_true rfl) d_St_init_1_24 ?_
  have hG_a2 : zu G s9 (zob 0 [.null, .int 0, .int 0, .int 0]) a = some (zBy d 16 f) := (zu_n (fun e => by rw [← e, hG_a] at hG_St; cases hG_St)).trans hG_a
  have hG_St2 := zu_s (G := G) (a := s9) (v := zob 0 [.null, .int 0, .int 0, .int 0])
  refine z_aload_n 2 d_St_init_1_27 rfl rfl ?_
  refine z_aload_n 1 d_St_init_1_28 rfl rfl ?_
  refine z_iconst (v := 0) d_St_init_1_29 (by decide) ?_
  refine z_iload 0 d_St_init_1_30 rfl ?_
  refine z_callSp1 (m_Ar_copyOfRange hs0 hst hG_a2 hfit hc16) ym_Ar_copyOfRange qM_St_54 qS_Ar_copyOfRange d_St_init_1_32 rfl (Nat.le_of_ble_eq_true rfl) ⟨by decide, by decide⟩ ⟨Nat.le_of_ble_eq_true rfl, Nat.le_of_ble_eq_true rfl⟩ (fun r_32 G_32 hp_32 => ?_)
  obtain ⟨b, g, hb, rfl, rfl⟩ := hp_32
  have nsb := ne_of_none hG_St2 hb
  have hG_St3 := (zu_n (v := zBy d cn g) nsb).trans hG_St2
  refine z_putF zc_St 0 (by decide) qF_St_9 hG_St3 rfl rfl rfl rfl rfl (Nat.le_of_ble_eq_true rfl) d_St_init_1_35 ?_
  refine z_goto 97 d_St_init_1_38 (by decide) ?_
  exact z_vret rfl (⟨rfl, b, by rw [zu_n nsb.symm] at hb; exact hb, zu_s, fun q v hq h1 => by
      rw [zu_n h1]
      refine (zu_n (fun e => ?_)).trans ((zu_n h1).trans hq)
      rw [e, ← zu_n (G := G) (v := zob 0 [.null, .int 0, .int 0, .int 0]) nsb.symm] at hq
      exact absurd (hq.symm.trans hb) (fun e => nomatch e)⟩) (by first | decide | omega) (by first | decide | omega) d_St_init_1_97
theorem d_St_init_2_0 : decode c_St_init_2 0 = .ok (.aload_n 0, 1) := by decide +kernel
theorem d_St_init_2_1 : decode c_St_init_2 1 = .ok (.aload_n 1, 1) := by decide +kernel
theorem d_St_init_2_2 : decode c_St_init_2 2 = .ok (.aconst_null, 1) := by decide +kernel
theorem d_St_init_2_3 : decode c_St_init_2 3 = .ok (.invokespecial 489, 3) := by decide +kernel
theorem d_St_init_2_6 : decode c_St_init_2 6 = .ok (.return_, 1) := by decide +kernel
set_option maxHeartbeats 4000000 in
set_option maxRecDepth 100000 in
theorem m_St_init_2 {g0 : State} {d : zD} {l : Launch} {a0 : Array Value} (hs0 : zS0 d a0 g0) (hst : l.stackTraces = false) {G : zG} {h a cn : Nat} {f : Nat → Int32} (hB : zSB d h a f cn G) (hc16 : cn < 16) {s9 : Nat} (hG_St : G s9 = some (zob 0 [.null, .int 0, .int 0, .int 0])) : zMet g0 d l y_St_init_2 c_St_init_2 2 ((Option.none : Option Jvm.ClassFile.FieldType)) 6 1 16 [.ref s9, .ref h] (G) (fun r G1 => r = none ∧ ∃ b, G b = none ∧ G1 s9 = some (zob 0 [.ref b, .int 0, .int 0, .int 0]) ∧ ∀ q v, G q = some v → q ≠ s9 → G1 q = some v) (zNo) := by
  refine z_entry hs0 hst (by decide) (Nat.le_of_ble_eq_true rfl) (fun p e s m args below meth c => ?_)
  refine z_aload_n 0 d_St_init_2_0 rfl rfl ?_
  refine z_aload_n 1 d_St_init_2_1 rfl rfl ?_
  refine z_null d_St_init_2_2 ?_
  refine z_callIp1 (m_St_init_1 hs0 hst hB hc16 hG_St) ym_St_init_1 rfl qM_St_489 qI_St_init_1 d_St_init_2_3 rfl (Nat.le_of_ble_eq_true rfl) ⟨by decide, by decide⟩ ⟨Nat.le_of_ble_eq_true rfl, Nat.le_of_ble_eq_true rfl⟩ (fun r_3 G_3 hp_3 => ?_)
  obtain ⟨rfl, hp3⟩ := hp_3
  exact z_vret rfl (⟨rfl, hp3⟩) (by first | decide | omega) (by first | decide | omega) d_St_init_2_6
theorem d_SB_toString_0 : decode c_SB_toString 0 = .ok (.new 18, 3) := by decide +kernel
theorem d_SB_toString_3 : decode c_SB_toString 3 = .ok (.dup, 1) := by decide +kernel
theorem d_SB_toString_4 : decode c_SB_toString 4 = .ok (.aload_n 0, 1) := by decide +kernel
theorem d_SB_toString_5 : decode c_SB_toString 5 = .ok (.invokespecial 137, 3) := by decide +kernel
theorem d_SB_toString_8 : decode c_SB_toString 8 = .ok (.areturn, 1) := by decide +kernel
set_option maxHeartbeats 4000000 in
set_option maxRecDepth 100000 in
theorem m_SB_toString {g0 : State} {d : zD} {l : Launch} {a0 : Array Value} (hs0 : zS0 d a0 g0) (hst : l.stackTraces = false) {G : zG} {h a cn : Nat} {f : Nat → Int32} (hB : zSB d h a f cn G) (hc16 : cn < 16) : zMet g0 d l y_SB_toString c_SB_toString 1 ((Option.some (Jvm.ClassFile.FieldType.object "java/lang/String"))) 7 2 20 [.ref h] (G) (fun r G1 => (∃ q, r = some (.ref q)) ∧ ∀ q v, G q = some v → G1 q = some v) (zNo) := by
  obtain ⟨⟨ml, hG_SB⟩, hG_a, hfit⟩ := id hB
  have nha : h ≠ a := fun e => by rw [e, hG_a] at hG_SB; cases hG_SB
  refine z_entry hs0 hst (by decide) (Nat.le_of_ble_eq_true rfl) (fun p e s m args below meth c => ?_)
  refine z_new (fs := [.null, .int 0, .int 0, .int 0]) zc_St qK_SB_18 qO_St qN_St (by decide) ⟨by decide, by decide⟩ d_SB_toString_0 (fun s9 hs hsb => ?_)
  have nhs := ne_of_none hG_SB hs
  have nas := ne_of_none hG_a hs
  have hB2 : zSB d h a f cn (zu G s9 (zob 0 [.null, .int 0, .int 0, .int 0])) := ⟨⟨ml, (zu_n nhs).trans hG_SB⟩, (zu_n nas).trans hG_a, hfit⟩
  refine z_dup d_SB_toString_3 rfl ?_
  refine z_aload_n 0 d_SB_toString_4 rfl rfl ?_
  refine z_callIp1 (m_St_init_2 hs0 hst hB2 hc16 zu_s) ym_St_init_2 rfl qM_SB_137 qI_St_init_2 d_SB_toString_5 rfl (Nat.le_of_ble_eq_true rfl) ⟨by decide, by decide⟩ ⟨Nat.le_of_ble_eq_true rfl, Nat.le_of_ble_eq_true rfl⟩ (fun r_5 G_5 hp_5 => ?_)
  obtain ⟨rfl, b, hb, hs9, hfr⟩ := hp_5
  exact z_aret rfl (Or.inl ⟨_, rfl⟩) (Or.inr ⟨_, rfl⟩) (⟨⟨_, rfl⟩, fun q v hq => by
      have nq := ne_of_none hq hs
      exact hfr q v ((zu_n nq).trans hq) nq⟩) (by first | decide | omega) (by first | decide | omega) d_SB_toString_8

def zrS : Option Value → Prop := fun r => ∃ q : Nat, r = some (.ref q)
theorem zT.k2 {d : zD} {A : Nat → Nat} {D : Nat → UInt64} {V : Nat → Nat → Int32} {nk ns h a : Nat} {G G1 : zG} (hT : zT d A D V nk ns G) (hk : zK2 h a G G1) (h1 : ∀ r, tlive nk ns r → A r ≠ h) (h2 : ∀ r, tlive nk ns r → A r ≠ a) : zT d A D V nk ns G1 := ⟨⟨hT.1.1, fun r hr => hk _ _ (hT.1.2 r hr) (h1 r hr) (h2 r hr)⟩, hT.2⟩

theorem d_Tb_row_0 : decode c_Tb_row 0 = .ok (.aload_n 0, 1) := by decide +kernel
theorem d_Tb_row_1 : decode c_Tb_row 1 = .ok (.iload_n 1, 1) := by decide +kernel
theorem d_Tb_row_2 : decode c_Tb_row 2 = .ok (.invokevirtual 140, 3) := by decide +kernel
theorem d_Tb_row_5 : decode c_Tb_row 5 = .ok (.astore_n 2, 1) := by decide +kernel
theorem d_Tb_row_6 : decode c_Tb_row 6 = .ok (.new 267, 3) := by decide +kernel
theorem d_Tb_row_9 : decode c_Tb_row 9 = .ok (.dup, 1) := by decide +kernel
theorem d_Tb_row_10 : decode c_Tb_row 10 = .ok (.invokespecial 269, 3) := by decide +kernel
theorem d_Tb_row_13 : decode c_Tb_row 13 = .ok (.astore_n 3, 1) := by decide +kernel
theorem d_Tb_row_14 : decode c_Tb_row 14 = .ok (.iconst 0, 1) := by decide +kernel
theorem d_Tb_row_15 : decode c_Tb_row 15 = .ok (.istore 4, 2) := by decide +kernel
theorem d_Tb_row_17 : decode c_Tb_row 17 = .ok (.iload 4, 2) := by decide +kernel
theorem d_Tb_row_19 : decode c_Tb_row 19 = .ok (.aload_n 0, 1) := by decide +kernel
theorem d_Tb_row_20 : decode c_Tb_row 20 = .ok (.getfield 10, 3) := by decide +kernel
theorem d_Tb_row_23 : decode c_Tb_row 23 = .ok (.invokevirtual 68, 3) := by decide +kernel
theorem d_Tb_row_26 : decode c_Tb_row 26 = .ok (.if_icmp .ge 44, 3) := by decide +kernel
theorem d_Tb_row_29 : decode c_Tb_row 29 = .ok (.aload_n 3, 1) := by decide +kernel
theorem d_Tb_row_30 : decode c_Tb_row 30 = .ok (.aload_n 2, 1) := by decide +kernel
theorem d_Tb_row_31 : decode c_Tb_row 31 = .ok (.iload 4, 2) := by decide +kernel
theorem d_Tb_row_33 : decode c_Tb_row 33 = .ok (.invokevirtual 270, 3) := by decide +kernel
theorem d_Tb_row_36 : decode c_Tb_row 36 = .ok (.ifCond .ne 8, 3) := by decide +kernel
theorem d_Tb_row_39 : decode c_Tb_row 39 = .ok (.bipush 46, 2) := by decide +kernel
theorem d_Tb_row_41 : decode c_Tb_row 41 = .ok (.goto 19, 3) := by decide +kernel
theorem d_Tb_row_44 : decode c_Tb_row 44 = .ok (.aload_n 2, 1) := by decide +kernel
theorem d_Tb_row_45 : decode c_Tb_row 45 = .ok (.iload 4, 2) := by decide +kernel
theorem d_Tb_row_47 : decode c_Tb_row 47 = .ok (.invokevirtual 179, 3) := by decide +kernel
theorem d_Tb_row_50 : decode c_Tb_row 50 = .ok (.ifCond .eq 8, 3) := by decide +kernel
theorem d_Tb_row_53 : decode c_Tb_row 53 = .ok (.bipush 111, 2) := by decide +kernel
theorem d_Tb_row_55 : decode c_Tb_row 55 = .ok (.goto 5, 3) := by decide +kernel
theorem d_Tb_row_58 : decode c_Tb_row 58 = .ok (.bipush 115, 2) := by decide +kernel
theorem d_Tb_row_60 : decode c_Tb_row 60 = .ok (.invokevirtual 273, 3) := by decide +kernel
theorem d_Tb_row_63 : decode c_Tb_row 63 = .ok (.pop, 1) := by decide +kernel
theorem d_Tb_row_64 : decode c_Tb_row 64 = .ok (.iinc 4 1, 3) := by decide +kernel
theorem d_Tb_row_67 : decode c_Tb_row 67 = .ok (.goto (-50), 3) := by decide +kernel
theorem d_Tb_row_70 : decode c_Tb_row 70 = .ok (.aload_n 2, 1) := by decide +kernel
theorem d_Tb_row_71 : decode c_Tb_row 71 = .ok (.getfield 213, 3) := by decide +kernel
theorem d_Tb_row_74 : decode c_Tb_row 74 = .ok (.ifCond .eq 10, 3) := by decide +kernel
theorem d_Tb_row_77 : decode c_Tb_row 77 = .ok (.aload_n 3, 1) := by decide +kernel
theorem d_Tb_row_78 : decode c_Tb_row 78 = .ok (.bipush 33, 2) := by decide +kernel
theorem d_Tb_row_80 : decode c_Tb_row 80 = .ok (.invokevirtual 273, 3) := by decide +kernel
theorem d_Tb_row_83 : decode c_Tb_row 83 = .ok (.pop, 1) := by decide +kernel
theorem d_Tb_row_84 : decode c_Tb_row 84 = .ok (.aload_n 3, 1) := by decide +kernel
theorem d_Tb_row_85 : decode c_Tb_row 85 = .ok (.invokevirtual 277, 3) := by decide +kernel
theorem d_Tb_row_88 : decode c_Tb_row 88 = .ok (.areturn, 1) := by decide +kernel
set_option maxHeartbeats 4000000 in
set_option maxRecDepth 100000 in
theorem m_Tb_row {g0 : State} {d : zD} {l : Launch} {a0 : Array Value} (hs0 : zS0 d a0 g0) (hst : l.stackTraces = false) {G : zG} {A : Nat → Nat} {D : Nat → UInt64} {V : Nat → Nat → Int32} {nk ns : Nat} (hT : zT d A D V nk ns G) (x : Int32) : zMet g0 d l y_Tb_row c_Tb_row 5 ((Option.some (Jvm.ClassFile.FieldType.object "java/lang/String"))) 12 5 46 [.ref (A 0), .int x] (G) (zTu d A nk ns V G zrS) (zTx d A nk ns V G ["java/lang/IndexOutOfBoundsException"]) := by
  have hG_Tb := hT.tb
  have hnk : nk ≤ 8 := hT.2.1
  have hns : ns ≤ 6 := hT.2.2.1
  refine z_entry hs0 hst (by decide) (Nat.le_of_ble_eq_true rfl) (fun p e s m args below meth c => ?_)
  refine z_aload_n 0 d_Tb_row_0 rfl rfl ?_
  refine z_iload_n 1 d_Tb_row_1 rfl rfl ?_
  refine z_callV (m_Tb_secretAt hs0 hst hT x) ym_Tb_secretAt qM_Tb_140 qI_Tb_secretAt qV_Tb_Tb_secretAt zc_Tb (by first | exact hT2.tb | exact hT.tb) d_Tb_row_2 rfl (Nat.le_of_ble_eq_true rfl) ⟨by decide, by decide⟩ ⟨Nat.le_of_ble_eq_true rfl, Nat.le_of_ble_eq_true rfl⟩ ?_ ?_
  · exact fun E G9 hx => by
      obtain ⟨hx1, rfl, hx3⟩ := hx
      obtain rfl : G = G9 := hx3.symm
      exact z_out ⟨by simp, D, V, hT, zKo.rf, zFr.rf⟩ (by decide) (by decide)
  intro r_2 G_2 hp_2
  obtain ⟨si, hsi, rfl, rfl, hg_2⟩ := hp_2
  obtain rfl : G = G_2 := hg_2.symm
  refine z_astore_n (L' := [(2, _), (0, _), (1, _)]) d_Tb_row_5 rfl (by decide) rfl ?_
  refine z_new (fs := [.null, .int 0, .int 0, .int 0]) zc_SB qK_Tb_267 qO_SB qN_SB (by decide) ⟨by decide, by decide⟩ d_Tb_row_6 (fun h hh hhb => ?_)
  refine z_dup d_Tb_row_9 rfl ?_
  refine z_callIp1 (m_SB_init hs0 hst zu_s) ym_SB_init rfl qM_Tb_269 qI_SB_init d_Tb_row_10 rfl (Nat.le_of_ble_eq_true rfl) ⟨by decide, by decide⟩ ⟨Nat.le_of_ble_eq_true rfl, Nat.le_of_ble_eq_true rfl⟩ (fun r_10 G_10 hp_10 => ?_)
  obtain ⟨hr_10, a, ha, hB, hk2⟩ := hp_10
  obtain rfl : r_10 = none := hr_10
  have ha0 : G a = none := by
    by_cases e : a = h
    · subst e; rw [zu_s] at ha; cases ha
    · rw [zu_n e] at ha; exact ha
  have ho1 := hT.none hh
  have ho2 := hT.none ha0
  have hT1 : zT d A D V nk ns G_10 := (hT.out (w := zob 1 [.null, .int 0, .int 0, .int 0]) ho1).k2 hk2 ho1 ho2
  have hF1 : tFr A nk ns G G_10 := fun q v hq hn => hk2 q v ((zu_n (ne_of_none hq hh)).trans hq) (ne_of_none hq hh) (ne_of_none hq ha0)
  refine z_astore_n (L' := [(3, _), (2, _), (0, _), (1, _)]) d_Tb_row_13 rfl (by decide) rfl ?_
  refine z_iconst (v := (nI 0)) d_Tb_row_14 (by decide) ?_
  refine z_istore (L' := [(4, _), (3, _), (2, _), (0, _), (1, _)]) d_Tb_row_15 (by decide) rfl ?_
  have key_17 : ∀ (n : Nat) (i : Nat) (G2 : zG) (f : Nat → Int32), nk - i < n → (i ≤ nk) → (zT d A D V nk ns G2) → (zSB d h a f i G2) → (tFr A nk ns G G2) → Z g0 d y_Tb_row c_Tb_row 5 ((Option.some (Jvm.ClassFile.FieldType.object "java/lang/String"))) [] p l e (zR 12 5 46) s m args below meth c (vx_MQ below (zQc g0 d (zTu d A nk ns V G zrS)) (zXc g0 d (zTx d A nk ns V G ["java/lang/IndexOutOfBoundsException"])) args s 5 46 (zA g0)) 3 26 (G2) [(4, .int (nI i)), (3, .ref h), (2, .ref (A (200 + si))), (0, .ref (A 0)), (1, .int (nI si))] [] 17 := by
    intro n
    induction n with
    | zero => intro i G2 f h0; exact absurd h0 (Nat.not_lt_zero _)
    | succ n ih_17 =>
      intro i G2 f hm_17 hi hT2 hB2 hF2
      obtain ⟨⟨ml, hG_SB⟩, -, -⟩ := id hB2
      refine z_iload 0 d_Tb_row_17 rfl ?_
      refine z_aload_n 3 d_Tb_row_19 rfl rfl ?_
      refine z_get zc_Tb 0 (by decide) qF_Tb_10 (by first | exact hT2.tb | exact hT.tb) rfl d_Tb_row_20 ?_
      refine z_callV0 (m_AL_size hs0 hst hT2.kl) ym_AL_size qM_Tb_68 qI_AL_size qV_AL_AL_size zc_AL hT2.kl d_Tb_row_23 rfl (Nat.le_of_ble_eq_true rfl) ⟨by decide, by decide⟩ ⟨Nat.le_of_ble_eq_true rfl, Nat.le_of_ble_eq_true rfl⟩ ?_
      refine z_icmp_ge 70 d_Tb_row_26 (by decide) (fun c_26 => ?_) (fun c_26 => ?_)
      · skip
        refine z_aload_n 2 d_Tb_row_70 rfl rfl ?_
        refine z_get zc_Se 6 (by decide) qF_Tb_213 (by first | exact (hT2.se hsi).1 | exact (hT.se hsi).1) rfl d_Tb_row_71 ?_
        refine z_if_eq 84 d_Tb_row_74 (by decide) (fun c_74 => ?_) (fun c_74 => ?_)
        · skip
          obtain ⟨cn, hcn, hB3⟩ : ∃ cn, cn ≤ 9 ∧ zSB d h a f cn G2 := ⟨_, by omega, hB2⟩
          obtain ⟨⟨ml3, hG_SB3⟩, -, -⟩ := id hB3
          have hT3 := hT2
          have hF3 := hF2
          refine z_aload_n 1 d_Tb_row_84 rfl rfl ?_
          refine z_callVp1 (m_SB_toString hs0 hst hB3 (by omega)) ym_SB_toString qM_Tb_277 qI_SB_toString qV_SB_SB_toString zc_SB hG_SB3 d_Tb_row_85 rfl (Nat.le_of_ble_eq_true rfl) ⟨by decide, by decide⟩ ⟨Nat.le_of_ble_eq_true rfl, Nat.le_of_ble_eq_true rfl⟩ (fun r_85 G_85 hp_85 => ?_)
          obtain ⟨⟨q9, rfl⟩, hk9⟩ := hp_85
          exact z_aret rfl (Or.inl ⟨_, rfl⟩) (Or.inr ⟨_, rfl⟩) (⟨⟨_, rfl⟩, D, V, ⟨⟨hT3.1.1, fun r hr => hk9 _ _ (hT3.1.2 r hr)⟩, hT3.2⟩, zKo.rf, fun q v hq hn => hk9 q v (hF3 q v hq hn)⟩) (by first | decide | omega) (by first | decide | omega) d_Tb_row_88
        · skip
          refine z_aload_n 1 d_Tb_row_77 rfl rfl ?_
          refine z_bipush (v := 33) d_Tb_row_78 (by decide) ?_
          refine z_callVp0 (m_SB_append_1 hs0 hst hB2 (show i < 16 by omega) (by decide)) ym_SB_append_1 qM_Tb_273 qI_SB_append_1 qV_SB_SB_append_1 zc_SB hG_SB d_Tb_row_80 rfl (Nat.le_of_ble_eq_true rfl) ⟨by decide, by decide⟩ ⟨Nat.le_of_ble_eq_true rfl, Nat.le_of_ble_eq_true rfl⟩ (fun r_80 G_80 hp_80 => ?_)
          obtain ⟨rfl, ⟨f3, hB3⟩, hk3⟩ := hp_80
          have hT3 := hT2.k2 hk3 ho1 ho2
          have hF3 : tFr A nk ns G G_80 := fun q v hq hn => hk3 q v (hF2 q v hq hn) (ne_of_none hq hh) (ne_of_none hq ha0)
          obtain ⟨cn, hcn, hB4⟩ : ∃ cn, cn ≤ 9 ∧ zSB d h a f3 cn G_80 := ⟨_, by omega, hB3⟩
          clear hB3
          have hB3 := hB4
          obtain ⟨⟨ml3, hG_SB3⟩, -, -⟩ := id hB3
          refine z_pop d_Tb_row_83 rfl ?_
          refine z_aload_n 1 d_Tb_row_84 rfl rfl ?_
          refine z_callVp1 (m_SB_toString hs0 hst hB3 (by omega)) ym_SB_toString qM_Tb_277 qI_SB_toString qV_SB_SB_toString zc_SB hG_SB3 d_Tb_row_85 rfl (Nat.le_of_ble_eq_true rfl) ⟨by decide, by decide⟩ ⟨Nat.le_of_ble_eq_true rfl, Nat.le_of_ble_eq_true rfl⟩ (fun r_85 G_85 hp_85 => ?_)
          obtain ⟨⟨q9, rfl⟩, hk9⟩ := hp_85
          exact z_aret rfl (Or.inl ⟨_, rfl⟩) (Or.inr ⟨_, rfl⟩) (⟨⟨_, rfl⟩, D, V, ⟨⟨hT3.1.1, fun r hr => hk9 _ _ (hT3.1.2 r hr)⟩, hT3.2⟩, zKo.rf, fun q v hq hn => hk9 q v (hF3 q v hq hn)⟩) (by first | decide | omega) (by first | decide | omega) d_Tb_row_88
      · skip
        have hi6 : i < nk := Nat.lt_of_not_le fun q => c_26 (nI_le q (by omega))
        refine z_aload_n 1 d_Tb_row_29 rfl rfl ?_
        refine z_aload_n 2 d_Tb_row_30 rfl rfl ?_
        refine z_iload 0 d_Tb_row_31 rfl ?_
        refine z_callV0 (m_Se_has hs0 hst (hT2.se hsi) (show i < 8 by omega)) ym_Se_has qM_Tb_270 qI_Se_has qV_Se_Se_has zc_Se (by first | exact (hT2.se hsi).1 | exact (hT.se hsi).1) d_Tb_row_33 rfl (Nat.le_of_ble_eq_true rfl) ⟨by decide, by decide⟩ ⟨Nat.le_of_ble_eq_true rfl, Nat.le_of_ble_eq_true rfl⟩ ?_
        refine z_if_ne 44 d_Tb_row_36 (by decide) (fun c_36 => ?_) (fun c_36 => ?_)
        · skip
          refine z_aload_n 2 d_Tb_row_44 rfl rfl ?_
          refine z_iload 0 d_Tb_row_45 rfl ?_
          refine z_callV0 (m_Se_isCurrent hs0 hst (hT2.se hsi) (show i < 8 by omega)) ym_Se_isCurrent qM_Tb_179 qI_Se_isCurrent qV_Se_Se_isCurrent zc_Se (by first | exact (hT2.se hsi).1 | exact (hT.se hsi).1) d_Tb_row_47 rfl (Nat.le_of_ble_eq_true rfl) ⟨by decide, by decide⟩ ⟨Nat.le_of_ble_eq_true rfl, Nat.le_of_ble_eq_true rfl⟩ ?_
          refine z_if_eq 58 d_Tb_row_50 (by decide) (fun c_50 => ?_) (fun c_50 => ?_)
          · skip
            refine z_bipush (v := 115) d_Tb_row_58 (by decide) ?_
            refine z_callVp0 (m_SB_append_1 hs0 hst hB2 (show i < 16 by omega) (by decide)) ym_SB_append_1 qM_Tb_273 qI_SB_append_1 qV_SB_SB_append_1 zc_SB hG_SB d_Tb_row_60 rfl (Nat.le_of_ble_eq_true rfl) ⟨by decide, by decide⟩ ⟨Nat.le_of_ble_eq_true rfl, Nat.le_of_ble_eq_true rfl⟩ (fun r_60 G_60 hp_60 => ?_)
            obtain ⟨rfl, ⟨f3, hB3⟩, hk3⟩ := hp_60
            have hT3 := hT2.k2 hk3 ho1 ho2
            have hF3 : tFr A nk ns G G_60 := fun q v hq hn => hk3 q v (hF2 q v hq hn) (ne_of_none hq hh) (ne_of_none hq ha0)
            refine z_pop d_Tb_row_63 rfl ?_
            refine z_iinc (v := nI (i + 1)) (L' := [(4, _), (3, _), (2, _), (0, _), (1, _)]) 0 d_Tb_row_64 rfl (nI_1 i) (by decide) rfl ?_
            refine z_goto 17 d_Tb_row_67 (by decide) ?_
            exact ih_17 (i + 1) _ _ (by omega) (by omega) hT3 hB3 hF3
          · skip
            refine z_bipush (v := 111) d_Tb_row_53 (by decide) ?_
            refine z_goto 60 d_Tb_row_55 (by decide) ?_
            refine z_callVp0 (m_SB_append_1 hs0 hst hB2 (show i < 16 by omega) (by decide)) ym_SB_append_1 qM_Tb_273 qI_SB_append_1 qV_SB_SB_append_1 zc_SB hG_SB d_Tb_row_60 rfl (Nat.le_of_ble_eq_true rfl) ⟨by decide, by decide⟩ ⟨Nat.le_of_ble_eq_true rfl, Nat.le_of_ble_eq_true rfl⟩ (fun r_60 G_60 hp_60 => ?_)
            obtain ⟨rfl, ⟨f3, hB3⟩, hk3⟩ := hp_60
            have hT3 := hT2.k2 hk3 ho1 ho2
            have hF3 : tFr A nk ns G G_60 := fun q v hq hn => hk3 q v (hF2 q v hq hn) (ne_of_none hq hh) (ne_of_none hq ha0)
            refine z_pop d_Tb_row_63 rfl ?_
            refine z_iinc (v := nI (i + 1)) (L' := [(4, _), (3, _), (2, _), (0, _), (1, _)]) 0 d_Tb_row_64 rfl (nI_1 i) (by decide) rfl ?_
            refine z_goto 17 d_Tb_row_67 (by decide) ?_
            exact ih_17 (i + 1) _ _ (by omega) (by omega) hT3 hB3 hF3
        · skip
          refine z_bipush (v := 46) d_Tb_row_39 (by decide) ?_
          refine z_goto 60 d_Tb_row_41 (by decide) ?_
          refine z_callVp0 (m_SB_append_1 hs0 hst hB2 (show i < 16 by omega) (by decide)) ym_SB_append_1 qM_Tb_273 qI_SB_append_1 qV_SB_SB_append_1 zc_SB hG_SB d_Tb_row_60 rfl (Nat.le_of_ble_eq_true rfl) ⟨by decide, by decide⟩ ⟨Nat.le_of_ble_eq_true rfl, Nat.le_of_ble_eq_true rfl⟩ (fun r_60 G_60 hp_60 => ?_)
          obtain ⟨rfl, ⟨f3, hB3⟩, hk3⟩ := hp_60
          have hT3 := hT2.k2 hk3 ho1 ho2
          have hF3 : tFr A nk ns G G_60 := fun q v hq hn => hk3 q v (hF2 q v hq hn) (ne_of_none hq hh) (ne_of_none hq ha0)
          refine z_pop d_Tb_row_63 rfl ?_
          refine z_iinc (v := nI (i + 1)) (L' := [(4, _), (3, _), (2, _), (0, _), (1, _)]) 0 d_Tb_row_64 rfl (nI_1 i) (by decide) rfl ?_
          refine z_goto 17 d_Tb_row_67 (by decide) ?_
          exact ih_17 (i + 1) _ _ (by omega) (by omega) hT3 hB3 hF3
  exact key_17 (nk + 1) 0 _ _ (by omega) (by omega) hT1 hB hF1
