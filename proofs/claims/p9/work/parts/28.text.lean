
section ZCV
variable {g0 : State} {d : zD} {y : MethodName} {cc : ByteArray} {nL : Nat} {ret : Option FieldType} {tb : List ExceptionTableEntry} {p : Program} {l : Launch} {e : Env} {R : Room} {s : State} {m : MethodId} {args : Array Value} {below : List Frame} {meth : Method} {c : Code} {Q : State → Prop} {cells slots : Nat} {G : zG} {L : List (Nat × Value)} {st : List Value} {pc : Nat}
/-- a call on an object of class C of a method of a class above it, which C does not lay anew -/
theorem z_callVC {y2 : MethodName} {cc2 : ByteArray} {nL2 idx : Nat} {ret2 : Option FieldType} {f2 mc2 ms2 : Nat} {av rest : List Value} {post : Option Value → zG → Prop} {px : String → zG → Prop} {ci a : Nat} {C : String} {T : u_T} {N : Nat} {ty : Nat → FieldType} {fs : List Value} (hM : zMet g0 d l y2 cc2 nL2 ret2 f2 mc2 ms2 (.ref a :: av) G post px) (hy : zY y2 cc2 nL2 ret2 av.length) (hq : Cond.methodLink y.cls idx y2 ∈ lw_tbl) (hi : Cond.instanceMethod y2 ∈ lw_tbl) (hv : zCx g0 d y cc nL ret tb p l s m meth c → (Cond.selects C y2 y2).before args s = true) (hz : zCl ci C T N ty) (hG : G a = some (zob ci fs)) (hd : decode cc pc = .ok (.invokevirtual idx, 3)) (hst : st = av.reverse ++ .ref a :: rest) (hrest : (rest.map fun v => v.category).sum ≤ 8) (hf : cells + mc2 ≤ R.cells ∧ slots + ms2 ≤ R.slots) (hR : f2 + 1 ≤ R.frames ∧ 8 + (nL2 + 11) + 64 * f2 ≤ R.locals)
  (kx : ∀ (E : String) (G' : zG), px E G' → ZX g0 d y cc nL ret tb p l e R s m args below meth c Q (cells + mc2) (slots + ms2) G' L rest pc E)
  (kk : ∀ (r : Option Value) (G' : zG), post r G' → Z g0 d y cc nL ret tb p l e R s m args below meth c Q (cells + mc2) (slots + ms2) G' L (r.toList ++ rest) (pc + 3)) : Z g0 d y cc nL ret tb p l e R s m args below meth c Q cells slots G L st pc := by
  intro hc H locs ls hP hS hl
  exact z_back hc hS hl (vx_runV (As := av) (rest := rest) (n := av.length) (C := C) ⟨hc.x, hc.b, hc.ml, hc.own, fun w h => nomatch (h : w ∈ [])⟩ hM ⟨z_cb hc hy hq hR, hc.w hi rfl args, hv hc⟩ ⟨z_blind, z_recv hc hP hz hG, z_pre hc hP hS⟩ rfl rfl hl.1 hst (lv_room hrest) hd hf) kx kk
/-- .. whose method x C lays anew: y2 -/
theorem z_callVU {y2 : MethodName} {cc2 : ByteArray} {nL2 idx : Nat} {ret2 : Option FieldType} {f2 mc2 ms2 : Nat} {av rest : List Value} {post : Option Value → zG → Prop} {px : String → zG → Prop} {ci a : Nat} {C : String} {x : MethodName} {bx : ByteArray} {nx : Nat} {rx : Option FieldType} {T : u_T} {N : Nat} {ty : Nat → FieldType} {fs : List Value} (hM : zMet g0 d l y2 cc2 nL2 ret2 f2 mc2 ms2 (.ref a :: av) G post px) (hy : zY y2 cc2 nL2 ret2 av.length) (hq : Cond.methodLink y.cls idx x ∈ lw_tbl) (hsm : Cond.sameMethod x.cls x.cls x.name x.desc ∈ lw_tbl) (hix : Cond.instanceMethod x ∈ lw_tbl) (hcx : Cond.code x bx nx rx ∈ lw_tbl) (hxd : x.desc = y2.desc) (hxn : x.cls ≠ "java/lang/invoke/MethodHandle" ∧ x.cls ≠ "java/lang/invoke/VarHandle") (hv : Cond.selects C x y2 ∈ lw_tbl) (hi : Cond.instanceMethod y2 ∈ lw_tbl) (hz : zCl ci C T N ty) (hG : G a = some (zob ci fs)) (hd : decode cc pc = .ok (.invokevirtual idx, 3)) (hst : st = av.reverse ++ .ref a :: rest) (hrest : (rest.map fun v => v.category).sum ≤ 8) (hf : cells + mc2 ≤ R.cells ∧ slots + ms2 ≤ R.slots) (hR : f2 + 1 ≤ R.frames ∧ 8 + (nL2 + 11) + 64 * f2 ≤ R.locals)
  (kx : ∀ (E : String) (G' : zG), px E G' → ZX g0 d y cc nL ret tb p l e R s m args below meth c Q (cells + mc2) (slots + ms2) G' L rest pc E)
  (kk : ∀ (r : Option Value) (G' : zG), post r G' → Z g0 d y cc nL ret tb p l e R s m args below meth c Q (cells + mc2) (slots + ms2) G' L (r.toList ++ rest) (pc + 3)) : Z g0 d y cc nL ret tb p l e R s m args below meth c Q cells slots G L st pc := by
  intro hc H locs ls hP hS hl
  have hl9 : ∀ sig, parseMethodDescriptor x.desc = some sig → av.length = sig.parameters.length := by rw [hxd]; exact z_len hy.2.2.2
  exact z_back hc hS hl (vx_runU (As := av) (rest := rest) (n := av.length) (C := C) (x := x) (owner := x.cls) ⟨hc.x, hc.b, hc.ml, hc.own, fun w h => nomatch (h : w ∈ [])⟩ hM ⟨⟨rfl, rfl, hR.1, hR.2, z_hws hc hy.1, List.mem_cons_self⟩, hc.w hy.1 rfl args, hc.w hy.2.1 rfl args, hxn, hl9, hc.w hq rfl args, hc.w hsm rfl args, va_Decl.of (hc.w hix rfl args) (hc.w hcx rfl args), hc.w hv rfl args, hc.w hi rfl args⟩ ⟨z_blind, z_recv hc hP hz hG, z_pre hc hP hS⟩ rfl rfl hl.1 hst (lv_room hrest) hd hf) kx kk
/-- super.method() -/
theorem z_callSU {y2 : MethodName} {cc2 : ByteArray} {nL2 idx : Nat} {ret2 : Option FieldType} {f2 mc2 ms2 : Nat} {av rest : List Value} {post : Option Value → zG → Prop} {px : String → zG → Prop} {ci a : Nat} {C : String} {T : u_T} {N : Nat} {ty : Nat → FieldType} {fs : List Value} (hM : zMet g0 d l y2 cc2 nL2 ret2 f2 mc2 ms2 (.ref a :: av) G post px) (hy : zY y2 cc2 nL2 ret2 av.length) (hno : y2.name ≠ "<init>") (hq : Cond.methodLink y.cls idx y2 ∈ lw_tbl) (hsm : Cond.sameMethod y2.cls y2.cls y2.name y2.desc ∈ lw_tbl) (hsc : Cond.superclass y.cls y2.cls ∈ lw_tbl) (hi : Cond.instanceMethod y2 ∈ lw_tbl) (hz : zCl ci C T N ty) (hG : G a = some (zob ci fs)) (hd : decode cc pc = .ok (.invokespecial idx, 3)) (hst : st = av.reverse ++ .ref a :: rest) (hrest : (rest.map fun v => v.category).sum ≤ 8) (hf : cells + mc2 ≤ R.cells ∧ slots + ms2 ≤ R.slots) (hR : f2 + 1 ≤ R.frames ∧ 8 + (nL2 + 11) + 64 * f2 ≤ R.locals)
  (kx : ∀ (E : String) (G' : zG), px E G' → ZX g0 d y cc nL ret tb p l e R s m args below meth c Q (cells + mc2) (slots + ms2) G' L rest pc E)
  (kk : ∀ (r : Option Value) (G' : zG), post r G' → Z g0 d y cc nL ret tb p l e R s m args below meth c Q (cells + mc2) (slots + ms2) G' L (r.toList ++ rest) (pc + 3)) : Z g0 d y cc nL ret tb p l e R s m args below meth c Q cells slots G L st pc := by
  intro hc H locs ls hP hS hl
  exact z_back hc hS hl (vx_runSU (As := av) (rest := rest) (n := av.length) (C := C) (hc.K.1 ci _ hz.1).2 ⟨hc.x, hc.b, hc.ml, hc.own, fun w h => nomatch (h : w ∈ [])⟩ hM ⟨⟨rfl, rfl, hR.1, hR.2, z_hws hc hy.1, List.mem_cons_self⟩, hc.w hq rfl args, hc.w hsm rfl args, hc.w hsc rfl args, hc.w hi rfl args, hc.w hy.2.1 rfl args, hc.w hy.1 rfl args, hno, z_len hy.2.2.2⟩ ⟨z_blind, z_recv hc hP hz hG, z_pre hc hP hS⟩ rfl rfl hl.1 hst (lv_room hrest) hd hf) kx kk
/-- String.COMPACT_STRINGS -/
theorem z_getsCS {idx : Nat} (hq : Cond.fieldLink y.cls idx "java/lang/String" "COMPACT_STRINGS" "Z" ∈ lw_tbl) (hd : decode cc pc = .ok (.getstatic idx, 3)) (k : Z g0 d y cc nL ret tb p l e R s m args below meth c Q cells slots G L (.int 1 :: st) (pc + 3)) : Z g0 d y cc nL ret tb p l e R s m args below meth c Q cells slots G L st pc := by
  intro hc H locs ls hP hS hl
  obtain ⟨⟨a0, h0, -, -, -, -, -, -, hZ, -⟩, -⟩ := id hc
  exact va_gets hc.x hc.b (va_Z.moved hc.warm.alike (va_Z.kept hZ (fun q h1 _ => hc.old.2 q h1))) hS hc.own (hc.w hq rfl args) (fun _ h => h) hd (k hc H locs ls hP hS hl)
/-- bytes copied -/
theorem z_copyB {a a0 n0 n1 idx k : Nat} {f g : Nat → Int32} (hq : Cond.methodLink y.cls idx arraycopyName ∈ lw_tbl) (hnat : Cond.native arraycopyName ∈ lw_tbl) (hstt : Cond.static arraycopyName ∈ lw_tbl) (hini : Cond.initialized "java/lang/System" ∈ lw_tbl) (hG0 : G a0 = some (zBy d n0 f)) (hG1 : G a = some (zBy d n1 g)) (hk : k < 2 ^ 30) (h0 : k ≤ n0) (h1 : k ≤ n1) (hfit : ∀ i, i < n0 → fits .byte (.int (f i)) = true) (hR : 1 ≤ R.frames ∧ 64 ≤ R.locals) (hst : (st.map fun v => v.category).sum ≤ 8) (hd : decode cc pc = .ok (.invokestatic idx, 3))
  (kk : Z g0 d y cc nL ret tb p l e R s m args below meth c Q cells slots (zu G a (zBy d n1 (va_cpy f g 0 0 k))) L st (pc + 3)) : Z g0 d y cc nL ret tb p l e R s m args below meth c Q cells slots G L (.int (nI k) :: .int 0 :: .ref a :: .int 0 :: .ref a0 :: st) pc := by
  intro hc H locs ls hP hS hl
  obtain ⟨j0, hj0⟩ := hP.in hG0
  obtain ⟨j1, hj1⟩ := hP.in hG1
  have hkc : (nI k).toNatClampNeg = k := nI_clamp (by omega)
  refine va_copyi hc.x hc.b (by rw [hc.ml]; exact hl.1.symm) hc.own (hc.w hq rfl args) (hc.w hnat rfl args) (hc.w hstt rfl args) (hc.w hini rfl args) hc.K hP.P hP.D hS j0 j1 2 2 hj0 hj1 rfl rfl rfl (by decide) (by decide) (nI_pos (by omega)) (by rw [hkc]; show 0 + k ≤ n0; omega) (by rw [hkc]; show 0 + k ≤ n1; omega) (fun i hi => hfit _ (by rw [hkc] at hi; show 0 + i < n0; omega)) hR.1 (Nat.le_trans (Nat.add_le_add_right hst _) (Nat.le_trans (show 8 + (nativeFrameWords "java/lang/System" "arraycopy" 5 + 11) ≤ 64 by decide) hR.2)) hd (fun H1 locs1 hP1 hD1 hS1 => ?_)
  have hP2 := hP.set hj1 hP1
  rw [hkc] at hP2
  exact kk hc H1 locs1 ls hP2 hS1 hl
end ZCV
theorem z_selP {g0 : State} {d : zD} {y : MethodName} {cc : ByteArray} {nL : Nat} {ret : Option FieldType} {tb : List ExceptionTableEntry} {p : Program} {l : Launch} {s : State} {m : MethodId} {args : Array Value} {meth : Method} {c : Code} {C : String} {y2 z2 : MethodName} {b2 : ByteArray} {n2 : Nat} {r2 : Option FieldType} (hsel : Cond.selects C z2 z2 ∈ lw_tbl) (hzc : z2.cls = y2.cls) (hpr : Cond.privateMethod y2 ∈ lw_tbl) (hi : Cond.instanceMethod y2 ∈ lw_tbl) (hy : y2.cls ≠ "java/lang/invoke/MethodHandle" ∧ y2.cls ≠ "java/lang/invoke/VarHandle") (hc : zCx g0 d y cc nL ret tb p l s m meth c) (hprg : ∀ a : Array Value, (Cond.privateMethod y2).before a s = true) : (Cond.selects C y2 y2).before args s = true := by
  obtain ⟨c2, r2, m2, q1, q2, q3, q4, kP, hkP, hkPi⟩ := Cond.selects_spec (hc.w hsel rfl args)
  obtain ⟨mk, methM, hnamed, hmethM, -, -⟩ := Cond.instanceMethod_spec (hc.w hi rfl args)
  have hfound : s.methodFound? y2.cls y2.name y2.desc = some mk := State.methodFound?_of_named hnamed hy
  have hcls : mk.cls = m2.cls := Option.some.inj ((findClass_of_methodNamed hnamed).symm.trans (by rw [← hzc]; exact findClass_of_methodNamed q3))
  have hsel2 : selectMethod {} s.vm c2 mk = .method mk := selectMethod_private hmethM (Cond.privateMethod_at (hprg args) mk methM hnamed hmethM)
  simp only [Cond.before, Cond.holds, Cond.value, q1, hfound, hnamed, hsel2, hcls, hkP]
  simp; exact hkPi


theorem zbf (x : Int32) : fits .byte (.int (vp_nar .byte x.toInt8.toInt32)) = true := by
  rw [pk_vb]
  exact pk_fb _


theorem zCx.priv {g0 : State} {d : zD} {y : MethodName} {cc : ByteArray} {nL : Nat} {ret : Option FieldType} {tb : List ExceptionTableEntry} {p : Program} {l : Launch} {s : State} {m : MethodId} {meth : Method} {c : Code} (h : zCx g0 d y cc nL ret tb p l s m meth c) {x : MethodName} (hw : Cond.privateMethod x ∈ lw_tbl) (args : Array Value) : (Cond.privateMethod x).before args s = true := by
  obtain ⟨⟨a0, h0, -⟩, -⟩ := id h
  have h1 := h0 _ hw
  have h2 := Cond.privateMethod_setVm (args := a0) (s := g0) (vm' := s.vm) h.warm.alike x
  rw [h1] at h2
  exact h2
theorem qPr_eci : (Jvm.Cond.privateMethod y_AB_ensureCapacityInternal) ∈ lw_tbl := List.mem_of_getElem? (i := 995) (by decide +kernel)
def zSB (d : zD) (h a : Nat) (f : Nat → Int32) (c : Nat) (G : zG) : Prop := (∃ ml : Int32, G h = some (zob 1 [.ref a, .int 0, .int ml, .int (nI c)])) ∧ G a = some (zBy d 16 f) ∧ ∀ i, i < 16 → fits .byte (.int (f i)) = true
/-- all but two cells are as they were -/
def zK2 (h a : Nat) (G G1 : zG) : Prop := ∀ q v, G q = some v → q ≠ h → q ≠ a → G1 q = some v

theorem d_AB_isLatin1_0 : decode c_AB_isLatin1 0 = .ok (.getstatic 18, 3) := by decide +kernel
theorem d_AB_isLatin1_3 : decode c_AB_isLatin1 3 = .ok (.ifCond .eq 14, 3) := by decide +kernel
theorem d_AB_isLatin1_6 : decode c_AB_isLatin1 6 = .ok (.aload_n 0, 1) := by decide +kernel
theorem d_AB_isLatin1_7 : decode c_AB_isLatin1 7 = .ok (.getfield 22, 3) := by decide +kernel
theorem d_AB_isLatin1_10 : decode c_AB_isLatin1 10 = .ok (.ifCond .ne 7, 3) := by decide +kernel
theorem d_AB_isLatin1_13 : decode c_AB_isLatin1 13 = .ok (.iconst 1, 1) := by decide +kernel
theorem d_AB_isLatin1_14 : decode c_AB_isLatin1 14 = .ok (.goto 4, 3) := by decide +kernel
theorem d_AB_isLatin1_18 : decode c_AB_isLatin1 18 = .ok (.ireturn, 1) := by decide +kernel
set_option maxHeartbeats 4000000 in
set_option maxRecDepth 100000 in
theorem m_AB_isLatin1 {g0 : State} {d : zD} {l : Launch} {a0 : Array Value} (hs0 : zS0 d a0 g0) (hst : l.stackTraces = false) {G : zG} {h : Nat} {v : Value} {ml c : Int32} (hG_SB : G h = some (zob 1 [v, .int 0, .int ml, .int c])) : zMet g0 d l y_AB_isLatin1 c_AB_isLatin1 1 ((Option.some Jvm.ClassFile.FieldType.boolean)) 1 0 0 [.ref h] (G) (zEq (some (.int 1)) G) (zNo) := by
  refine z_entry hs0 hst (by decide) (Nat.le_of_ble_eq_true rfl) (fun p e s m args below meth c => ?_)
  refine z_getsCS qF_AB_18 d_AB_isLatin1_0 ?_
  refine z_if_eq 17 d_AB_isLatin1_3 (by decide) (fun c_3 => absurd c_3 (by decide)) (fun c_3 => ?_)
  refine z_aload_n 0 d_AB_isLatin1_6 rfl rfl ?_
  refine z_get zc_SB 1 (by decide) qF_AB_22 hG_SB rfl d_AB_isLatin1_7 ?_
  refine z_if_ne 17 d_AB_isLatin1_10 (by decide) (fun c_10 => absurd rfl c_10) (fun c_10 => ?_)
  refine z_iconst (v := 1) d_AB_isLatin1_13 (by decide) ?_
  refine z_goto 18 d_AB_isLatin1_14 (by decide) ?_
  exact z_zret rfl (by first | rfl | exact zb_nar _) (⟨rfl, rfl⟩) (by decide) (by decide) d_AB_isLatin1_18
theorem d_AB_ensureCapacityInternal_0 : decode c_AB_ensureCapacityInternal 0 = .ok (.aload_n 0, 1) := by decide +kernel
theorem d_AB_ensureCapacityInternal_1 : decode c_AB_ensureCapacityInternal 1 = .ok (.getfield 15, 3) := by decide +kernel
theorem d_AB_ensureCapacityInternal_4 : decode c_AB_ensureCapacityInternal 4 = .ok (.arraylength, 1) := by decide +kernel
theorem d_AB_ensureCapacityInternal_5 : decode c_AB_ensureCapacityInternal 5 = .ok (.aload_n 0, 1) := by decide +kernel
theorem d_AB_ensureCapacityInternal_6 : decode c_AB_ensureCapacityInternal 6 = .ok (.getfield 22, 3) := by decide +kernel
theorem d_AB_ensureCapacityInternal_9 : decode c_AB_ensureCapacityInternal 9 = .ok (.ishr, 1) := by decide +kernel
theorem d_AB_ensureCapacityInternal_10 : decode c_AB_ensureCapacityInternal 10 = .ok (.istore_n 2, 1) := by decide +kernel
theorem d_AB_ensureCapacityInternal_11 : decode c_AB_ensureCapacityInternal 11 = .ok (.iload_n 1, 1) := by decide +kernel
theorem d_AB_ensureCapacityInternal_12 : decode c_AB_ensureCapacityInternal 12 = .ok (.iload_n 2, 1) := by decide +kernel
theorem d_AB_ensureCapacityInternal_13 : decode c_AB_ensureCapacityInternal 13 = .ok (.isub, 1) := by decide +kernel
theorem d_AB_ensureCapacityInternal_14 : decode c_AB_ensureCapacityInternal 14 = .ok (.ifCond .le 24, 3) := by decide +kernel
theorem d_AB_ensureCapacityInternal_38 : decode c_AB_ensureCapacityInternal 38 = .ok (.return_, 1) := by decide +kernel
set_option maxHeartbeats 4000000 in
set_option maxRecDepth 100000 in
theorem m_AB_ensureCapacityInternal {g0 : State} {d : zD} {l : Launch} {a0 : Array Value} (hs0 : zS0 d a0 g0) (hst : l.stackTraces = false) {G : zG} {h a cn : Nat} {f : Nat → Int32} (hB : zSB d h a f cn G) {n : Nat} (hn : n ≤ 16) : zMet g0 d l y_AB_ensureCapacityInternal c_AB_ensureCapacityInternal 3 ((Option.none : Option Jvm.ClassFile.FieldType)) 1 0 0 [.ref h, .int (nI n)] (G) (zEq none G) (zNo) := by
  obtain ⟨⟨ml, hG_SB⟩, hG_a, hfit⟩ := id hB
  have nha : h ≠ a := fun e => by rw [e, hG_a] at hG_SB; cases hG_SB
  refine z_entry hs0 hst (by decide) (Nat.le_of_ble_eq_true rfl) (fun p e s m args below meth c => ?_)
  refine z_aload_n 0 d_AB_ensureCapacityInternal_0 rfl rfl ?_
  refine z_get zc_SB 0 (by decide) qF_AB_15 hG_SB rfl d_AB_ensureCapacityInternal_1 ?_
  refine z_alenB hG_a d_AB_ensureCapacityInternal_4 ?_
  refine z_aload_n 0 d_AB_ensureCapacityInternal_5 rfl rfl ?_
  refine z_get zc_SB 1 (by decide) qF_AB_22 hG_SB rfl d_AB_ensureCapacityInternal_6 ?_
  refine z_ishr d_AB_ensureCapacityInternal_9 ?_
  refine z_topv (v := nI 16) (by decide) ?_
  refine z_istore_n (L' := [(2, _), (0, _), (1, _)]) d_AB_ensureCapacityInternal_10 rfl (by decide) rfl ?_
  refine z_iload_n 2 d_AB_ensureCapacityInternal_11 rfl rfl ?_
  refine z_iload_n 0 d_AB_ensureCapacityInternal_12 rfl rfl ?_
  refine z_isub d_AB_ensureCapacityInternal_13 ?_
  refine z_if_le 38 d_AB_ensureCapacityInternal_14 (by decide) (fun c_14 => ?_) (fun c_14 => absurd ((by decide : ∀ n, n < 17 → nI n - nI 16 ≤ 0) n (by omega)) c_14)
  exact z_vret rfl (⟨rfl, rfl⟩) (by first | decide | omega) (by first | decide | omega) d_AB_ensureCapacityInternal_38
theorem d_SL_canEncode_0 : decode c_SL_canEncode 0 = .ok (.iload_n 0, 1) := by decide +kernel
theorem d_SL_canEncode_1 : decode c_SL_canEncode 1 = .ok (.sipush 255, 3) := by decide +kernel
theorem d_SL_canEncode_4 : decode c_SL_canEncode 4 = .ok (.if_icmp .gt 7, 3) := by decide +kernel
theorem d_SL_canEncode_7 : decode c_SL_canEncode 7 = .ok (.iconst 1, 1) := by decide +kernel
theorem d_SL_canEncode_8 : decode c_SL_canEncode 8 = .ok (.goto 4, 3) := by decide +kernel
theorem d_SL_canEncode_12 : decode c_SL_canEncode 12 = .ok (.ireturn, 1) := by decide +kernel
set_option maxHeartbeats 4000000 in
set_option maxRecDepth 100000 in
theorem m_SL_canEncode {g0 : State} {d : zD} {l : Launch} {a0 : Array Value} (hs0 : zS0 d a0 g0) (hst : l.stackTraces = false) {G : zG} {x : Int32} (hx : ¬ 255 < x) : zMet g0 d l y_SL_canEncode c_SL_canEncode 1 ((Option.some Jvm.ClassFile.FieldType.boolean)) 1 0 0 [.int x] (G) (zEq (some (.int 1)) G) (zNo) := by
  refine z_entry hs0 hst (by decide) (Nat.le_of_ble_eq_true rfl) (fun p e s m args below meth c => ?_)
  refine z_iload_n 0 d_SL_canEncode_0 rfl rfl ?_
  refine z_sipush (v := 255) d_SL_canEncode_1 (by decide) ?_
  refine z_icmp_gt 11 d_SL_canEncode_4 (by decide) (fun c_4 => absurd c_4 hx) (fun c_4 => ?_)
  refine z_iconst (v := 1) d_SL_canEncode_7 (by decide) ?_
  refine z_goto 12 d_SL_canEncode_8 (by decide) ?_
  exact z_zret rfl (by first | rfl | exact zb_nar _) (⟨rfl, rfl⟩) (by decide) (by decide) d_SL_canEncode_12
theorem d_AB_append_1_0 : decode c_AB_append_1 0 = .ok (.aload_n 0, 1) := by decide +kernel
theorem d_AB_append_1_1 : decode c_AB_append_1 1 = .ok (.aload_n 0, 1) := by decide +kernel
theorem d_AB_append_1_2 : decode c_AB_append_1 2 = .ok (.getfield 79, 3) := by decide +kernel
theorem d_AB_append_1_5 : decode c_AB_append_1 5 = .ok (.iconst 1, 1) := by decide +kernel
theorem d_AB_append_1_6 : decode c_AB_append_1 6 = .ok (.iadd, 1) := by decide +kernel
theorem d_AB_append_1_7 : decode c_AB_append_1 7 = .ok (.invokevirtual 100, 3) := by decide +kernel
theorem d_AB_append_1_10 : decode c_AB_append_1 10 = .ok (.aload_n 0, 1) := by decide +kernel
theorem d_AB_append_1_11 : decode c_AB_append_1 11 = .ok (.invokevirtual 83, 3) := by decide +kernel
theorem d_AB_append_1_14 : decode c_AB_append_1 14 = .ok (.ifCond .eq 31, 3) := by decide +kernel
theorem d_AB_append_1_17 : decode c_AB_append_1 17 = .ok (.iload_n 1, 1) := by decide +kernel
theorem d_AB_append_1_18 : decode c_AB_append_1 18 = .ok (.invokestatic 191, 3) := by decide +kernel
theorem d_AB_append_1_21 : decode c_AB_append_1 21 = .ok (.ifCond .eq 24, 3) := by decide +kernel
theorem d_AB_append_1_24 : decode c_AB_append_1 24 = .ok (.aload_n 0, 1) := by decide +kernel
theorem d_AB_append_1_25 : decode c_AB_append_1 25 = .ok (.getfield 15, 3) := by decide +kernel
theorem d_AB_append_1_28 : decode c_AB_append_1 28 = .ok (.aload_n 0, 1) := by decide +kernel
theorem d_AB_append_1_29 : decode c_AB_append_1 29 = .ok (.dup, 1) := by decide +kernel
theorem d_AB_append_1_30 : decode c_AB_append_1 30 = .ok (.getfield 79, 3) := by decide +kernel
theorem d_AB_append_1_33 : decode c_AB_append_1 33 = .ok (.dup_x1, 1) := by decide +kernel
theorem d_AB_append_1_34 : decode c_AB_append_1 34 = .ok (.iconst 1, 1) := by decide +kernel
theorem d_AB_append_1_35 : decode c_AB_append_1 35 = .ok (.iadd, 1) := by decide +kernel
theorem d_AB_append_1_36 : decode c_AB_append_1 36 = .ok (.putfield 79, 3) := by decide +kernel
theorem d_AB_append_1_39 : decode c_AB_append_1 39 = .ok (.iload_n 1, 1) := by decide +kernel
theorem d_AB_append_1_40 : decode c_AB_append_1 40 = .ok (.i2b, 1) := by decide +kernel
theorem d_AB_append_1_41 : decode c_AB_append_1 41 = .ok (.bastore, 1) := by decide +kernel
theorem d_AB_append_1_42 : decode c_AB_append_1 42 = .ok (.goto 33, 3) := by decide +kernel
theorem d_AB_append_1_75 : decode c_AB_append_1 75 = .ok (.aload_n 0, 1) := by decide +kernel
theorem d_AB_append_1_76 : decode c_AB_append_1 76 = .ok (.areturn, 1) := by decide +kernel
set_option maxHeartbeats 4000000 in
set_option maxRecDepth 100000 in
theorem m_AB_append_1 {g0 : State} {d : zD} {l : Launch} {a0 : Array Value} (hs0 : zS0 d a0 g0) (hst : l.stackTraces = false) {G : zG} {h a cn : Nat} {f : Nat → Int32} (hB : zSB d h a f cn G) (hc16 : cn < 16) {x : Int32} (hx : ¬ 255 < x) : zMet g0 d l y_AB_append_1 c_AB_append_1 2 ((Option.some (Jvm.ClassFile.FieldType.object "java/lang/AbstractStringBuilder"))) 3 0 0 [.ref h, .int x] (G) (fun r G1 => r = some (.ref h) ∧ (∃ f', zSB d h a f' (cn + 1) G1) ∧ zK2 h a G G1) (zNo) := by
  obtain ⟨⟨ml, hG_SB⟩, hG_a, hfit⟩ := id hB
  have nha : h ≠ a := fun e => by rw [e, hG_a] at hG_SB; cases hG_SB
  refine z_entry hs0 hst (by decide) (Nat.le_of_ble_eq_true rfl) (fun p e s m args below meth c => ?_)
  refine z_aload_n 0 d_AB_append_1_0 rfl rfl ?_
  refine z_aload_n 0 d_AB_append_1_1 rfl rfl ?_
  refine z_get zc_SB 3 (by decide) qF_AB_79 hG_SB rfl d_AB_append_1_2 ?_
  refine z_iconst (v := 1) d_AB_append_1_5 (by decide) ?_
  refine z_iadd d_AB_append_1_6 ?_
  refine z_topv (v := nI (cn + 1)) (nI_1 cn) ?_
  refine z_callVC (C := "java/lang/StringBuilder") (m_AB_ensureCapacityInternal hs0 hst hB (n := cn + 1) (by omega)) ym_AB_ensureCapacityInternal qM_AB_100 qI_AB_ensureCapacityInternal (fun hc => z_selP (b2 := c_AB_ensureCapacityInternal) (n2 := 3) (r2 := none) qV_SB_AB_isLatin1 rfl qPr_eci qI_AB_ensureCapacityInternal ⟨by decide, by decide⟩ hc (fun a => hc.priv qPr_eci a)) zc_SB hG_SB d_AB_append_1_7 rfl (Nat.le_of_ble_eq_true rfl) ⟨Nat.zero_le _, Nat.zero_le _⟩ ⟨Nat.le_of_ble_eq_true rfl, Nat.le_of_ble_eq_true rfl⟩ (fun _ _ hx => hx.elim) (fun r_7 G_7 hp_7 => ?_)
  obtain ⟨rfl, rfl⟩ := hp_7
  refine z_aload_n 0 d_AB_append_1_10 rfl rfl ?_
  refine z_callVC (C := "java/lang/StringBuilder") (m_AB_isLatin1 hs0 hst hG_SB) ym_AB_isLatin1 qM_AB_83 qI_AB_isLatin1 (fun hc => hc.w qV_SB_AB_isLatin1 rfl _) zc_SB hG_SB d_AB_append_1_11 rfl (Nat.le_of_ble_eq_true rfl) ⟨Nat.zero_le _, Nat.zero_le _⟩ ⟨Nat.le_of_ble_eq_true rfl, Nat.le_of_ble_eq_true rfl⟩ (fun _ _ hx => hx.elim) (fun r_11 G_11 hp_11 => ?_)
  obtain ⟨rfl, rfl⟩ := hp_11
  refine z_if_eq 45 d_AB_append_1_14 (by decide) (fun c_14 => absurd c_14 (by decide)) (fun c_14 => ?_)
  refine z_iload_n 1 d_AB_append_1_17 rfl rfl ?_
  refine z_callS0 (m_SL_canEncode hs0 hst hx) ym_SL_canEncode qM_AB_191 qS_SL_canEncode d_AB_append_1_18 rfl (Nat.le_of_ble_eq_true rfl) ⟨Nat.zero_le _, Nat.zero_le _⟩ ⟨Nat.le_of_ble_eq_true rfl, Nat.le_of_ble_eq_true rfl⟩ ?_
  refine z_if_eq 45 d_AB_append_1_21 (by decide) (fun c_21 => absurd c_21 (by decide)) (fun c_21 => ?_)
  refine z_aload_n 0 d_AB_append_1_24 rfl rfl ?_
  refine z_get zc_SB 0 (by decide) qF_AB_15 hG_SB rfl d_AB_append_1_25 ?_
  refine z_aload_n 0 d_AB_append_1_28 rfl rfl ?_
  refine z_dup d_AB_append_1_29 rfl ?_
  refine z_get zc_SB 3 (by decide) qF_AB_79 hG_SB rfl d_AB_append_1_30 ?_
  refine z_dup_x1 d_AB_append_1_33 rfl rfl ?_
  refine z_iconst (v := 1) d_AB_append_1_34 (by decide) ?_
  refine z_iadd d_AB_append_1_35 ?_
  refine z_topv (v := nI (cn + 1)) (nI_1 cn) ?_
  refine z_put zc_SB 3 (by decide) qF_AB_79 hG_SB rfl rfl rfl (Nat.le_of_ble_eq_true rfl) d_AB_append_1_36 ?_
  have hG_a2 := (zu_n (v := zob 1 [.ref a, .int 0, .int ml, .int (nI (cn + 1))]) nha.symm).trans hG_a
  refine z_iload_n 1 d_AB_append_1_39 rfl rfl ?_
  refine z_i2b d_AB_append_1_40 rfl ?_
  refine z_bast hG_a2 (vp_in_nI hc16 (by decide)) d_AB_append_1_41 ?_
  refine z_goto 75 d_AB_append_1_42 (by decide) ?_
  refine z_aload_n 0 d_AB_append_1_75 rfl rfl ?_
  exact z_aret rfl (Or.inl ⟨_, rfl⟩) (Or.inr ⟨_, rfl⟩) (⟨rfl, ⟨_, ⟨ml, (zu_n nha).trans zu_s⟩, zu_s, fun i hi => by
      unfold upd
      by_cases e : i = (nI cn).toNatClampNeg
      · rw [if_pos e]; exact zbf _
      · rw [if_neg e]; exact hfit i hi⟩, fun q v hq h1 h2 => by rw [zu_n h2, zu_n h1]; exact hq⟩) (by first | decide | omega) (by first | decide | omega) d_AB_append_1_76
