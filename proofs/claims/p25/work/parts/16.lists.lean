
/-- what an array of Objects may take: an object of a class of ours, or an array of ints -/
def zel (d : zD) (G : zG) (v : Nat) : Prop := (∃ (ci : Nat) (C : String) (T : u_T) (N : Nat) (ty : Nat → FieldType) (fs : List Value), zCl ci C T N ty ∧ Cond.castable C "java/lang/Object" ∈ lw_tbl ∧ G v = some (zob ci fs)) ∨ ∃ (n : Nat) (f : Nat → Int32), G v = some (zI d n f)
theorem zel.up {d : zD} {G : zG} {v a : Nat} {w : va_E} (h : zel d G v) (hw : a = v → ∃ fs ci, G v = some (zob ci fs) ∧ ∃ fs', w = zob ci fs') : zel d (zu G a w) v := by
  by_cases e : v = a
  · subst e
    obtain ⟨fs, ci, h1, fs', rfl⟩ := hw rfl
    rcases h with ⟨ci2, C, T, N, ty, fs2, hz, hc, h2⟩ | ⟨n, f, h2⟩
    · rw [h1] at h2
      cases h2
      exact Or.inl ⟨ci, C, T, N, ty, fs', hz, hc, zu_s⟩
    · rw [h1] at h2; cases h2
  · unfold zel
    rw [zu_n e]
    exact h
section ZEL
variable {g0 : State} {d : zD} {y : MethodName} {cc : ByteArray} {nL : Nat} {ret : Option FieldType} {tb : List ExceptionTableEntry} {p : Program} {l : Launch} {e : Env} {R : Room} {s : State} {m : MethodId} {args : Array Value} {below : List Frame} {meth : Method} {c : Code} {Q : State → Prop} {cells slots : Nat} {G : zG} {L : List (Nat × Value)} {st : List Value} {pc : Nat}
theorem zel.any {H : Heap} {v : Nat} (hc : zCx g0 d y cc nL ret tb p l s m meth c) (hP : zPic g0 d G H) (h : zel d G v) : va_Any "java/lang/Object" s H v := by
  rcases h with ⟨ci, C, T, N, ty, fs, hz, hcast, hG⟩ | ⟨n, f, hG⟩
  · obtain ⟨j, hj⟩ := hP.in hG
    refine va_rAny hc.K hP.P hj hz.1 (fun comp c0 h1 h2 => ?_)
    obtain ⟨c1, t1, f1, f2, f3⟩ := Cond.castable_spec (va_Nw.use (A := #[]) rfl (hc.cast hcast))
    cases Option.some.inj (f1.symm.trans h2)
    cases Option.some.inj (f2.symm.trans h1)
    exact f3
  · have h1 := (hP _ _ hG).2
    have hnm := va_nm_int (hc.K.2 0 _ rfl).2
    obtain ⟨kC, hkC, -⟩ := Vm.findClass_spec hnm
    refine ⟨_, h1, rfl, ⟨kC, hkC⟩, fun comp h2 => ?_⟩
    obtain ⟨c1, t1, f1, f2, f3⟩ := Cond.castable_spec (va_Nw.use (A := #[]) rfl (hc.cast qT__I_Oj))
    cases Option.some.inj (f1.symm.trans hnm)
    cases Option.some.inj (f2.symm.trans h2)
    exact f3
theorem z_aastM {a n v : Nat} {f : Nat → Option Nat} {i : Int32} (hG : G a = some (zO d n f)) (hV : zel d G v) (hin : vp_in i n) (hd : decode cc pc = .ok (.aastore, 1)) (k : Z g0 d y cc nL ret tb p l e R s m args below meth c Q cells slots (zu G a (zO d n (va_up f i.toNatClampNeg (some v)))) L st (pc + 1)) : Z g0 d y cc nL ret tb p l e R s m args below meth c Q cells slots G L (.ref v :: .int i :: .ref a :: st) pc := by
  intro hc H locs ls hP hS hl
  obtain ⟨j, hj⟩ := hP.in hG
  exact va_astqM hc.x hc.b hc.K hP.P hP.D hS j 3 hj rfl (zel.any hc hP hV) hin hd (fun H1 locs1 hP1 hD1 hS1 => k hc H1 locs1 ls (hP.set hj hP1) hS1 hl)
theorem z_copyO {a a0 n0 n1 idx k : Nat} {f g : Nat → Option Nat} (hq : Cond.methodLink y.cls idx arraycopyName ∈ lw_tbl) (hnat : Cond.native arraycopyName ∈ lw_tbl) (hstt : Cond.static arraycopyName ∈ lw_tbl) (hini : Cond.initialized "java/lang/System" ∈ lw_tbl) (hG0 : G a0 = some (zO d n0 f)) (hG1 : G a = some (zO d n1 g)) (hk : k < 2 ^ 30) (h0 : k ≤ n0) (h1 : k ≤ n1) (hel : ∀ i y, i < k → f i = some y → zel d G y) (hR : 1 ≤ R.frames ∧ 64 ≤ R.locals) (hst : (st.map fun v => v.category).sum ≤ 8) (hd : decode cc pc = .ok (.invokestatic idx, 3)) (kk : Z g0 d y cc nL ret tb p l e R s m args below meth c Q cells slots (zu G a (zO d n1 (va_cpy f g 0 0 k))) L st (pc + 3)) : Z g0 d y cc nL ret tb p l e R s m args below meth c Q cells slots G L (.int (nI k) :: .int 0 :: .ref a :: .int 0 :: .ref a0 :: st) pc := by
  intro hc H locs ls hP hS hl
  obtain ⟨j0, hj0⟩ := hP.in hG0
  obtain ⟨j1, hj1⟩ := hP.in hG1
  have hkc : (nI k).toNatClampNeg = k := nI_clamp (by omega)
  refine va_copyM hc.x hc.b (by rw [hc.ml]; exact hl.1.symm) hc.own (hc.w hq rfl args) (hc.w hnat rfl args) (hc.w hstt rfl args) (hc.w hini rfl args) hc.K hP.P hP.D hS j0 j1 3 3 hj0 hj1 rfl rfl (by decide) (by decide) (nI_pos (by omega)) (by rw [hkc]; show 0 + k ≤ n0; omega) (by rw [hkc]; show 0 + k ≤ n1; omega) (fun i hi z hz => ?_) hR.1 (Nat.le_trans (Nat.add_le_add_right hst _) (Nat.le_trans (show 8 + (nativeFrameWords "java/lang/System" "arraycopy" 5 + 11) ≤ 64 by decide) hR.2)) hd (fun H1 locs1 hP1 hD1 hS1 => ?_)
  · rw [hkc] at hi
    have hz2 : f i = some z := by rw [← hz]; congr 1; show i = 0 + i; omega
    exact zel.any hc hP (hel i z hi hz2)
  · have := hP.set hj1 hP1
    rw [hkc] at this
    exact kk hc H1 locs1 ls this hS1 hl
theorem z_newO {i : Int32} (N : Nat) {idx : Nat} (hq : Cond.classLink y.cls idx "java/lang/Object" ∈ lw_tbl) (hn : ¬ i < 0) (hN : i.toNatClampNeg = N) (hb : N * 4 ≤ 536870912) (hf : cells + 1 ≤ R.cells ∧ slots + N ≤ R.slots) (hd : decode cc pc = .ok (.anewarray idx, 3))
  (k : ∀ a : Nat, G a = none → g0.heap.size ≤ a → Z g0 d y cc nL ret tb p l e R s m args below meth c Q (cells + 1) (slots + N) (zu G a (zO d N (fun _ => none))) L (.ref a :: st) (pc + 3)) : Z g0 d y cc nL ret tb p l e R s m args below meth c Q cells slots G L (.int i :: st) pc := by
  intro hc H locs ls hP hS hl
  obtain ⟨⟨a0, h0, -⟩, -⟩ := id hc
  have hAO : va_AO "java/lang/Object" s := va_AO.moved hc.warm.alike (va_AO.of (h0 _ qAo_objectjavalangObject))
  have hle : g0.heap.size ≤ H.size := (hc.old.s hS).1
  refine va_newq (own := y.cls) (C := "java/lang/Object") hc.x hc.b hc.own (hc.w hq rfl args) hAO hc.K hP.P hP.D hS (fun q h => Nat.le_trans hc.old.1 h) hn hN hb hf.1 hf.2 hd (fun q cA H1 hK1 hP1 hD1 hS1 => ?_)
  have hln : (zTys d ++ [(cA, FieldType.object "java/lang/Object")])[4]? = some (cA, FieldType.object "java/lang/Object") := rfl
  have e1 := va_nmO (hK1.2 4 _ hln).2 rfl
  have e2 := va_nmO (hc.K.2 3 _ rfl).2 rfl
  have hcA : cA = d.2.1 3 := Option.some.inj (e1.symm.trans e2)
  subst hcA
  have hqn : G q = none := by
    cases hg : G q with
    | none => rfl
    | some v =>
      obtain ⟨j, hj⟩ := hP.in hg
      have hjl := (List.getElem?_eq_some_iff.mp hj).1
      have h3 := hD1.1 j (zl g0 G H.size).length (q, v) (q, .inl (d.2.1 3, N, .inr (.inr (.inr (.inr (fun _ => none)))))) (by rw [List.getElem?_append_left hjl]; exact hj) (by simp) rfl
      omega
  have hqA : g0.heap.size ≤ q := hD1.2 (zl g0 G H.size).length (q, .inl (d.2.1 3, N, .inr (.inr (.inr (.inr (fun _ => none)))))) (by simp)
  refine k q hqn hqA hc H1 locs ls ?_ hS1 hl
  intro a v ha
  by_cases he : a = q
  · subst he
    rw [zu_s] at ha
    cases ha
    exact ⟨hqA, hP1 (zl g0 G H.size).length (a, zO d N (fun _ => none)) (by simp)⟩
  · rw [zu_n he] at ha
    obtain ⟨j, hj⟩ := hP.in ha
    exact ⟨(hP a v ha).1, hP1 j (a, v) (by rw [List.getElem?_append_left (List.getElem?_eq_some_iff.mp hj).1]; exact hj)⟩
/-- Math.max, Math.min -/
theorem z_mmax {idx : Nat} {a b : Int32} (hq : Cond.methodLink y.cls idx Lib.Math.max.name ∈ lw_tbl) (hst : Cond.static Lib.Math.max.name ∈ lw_tbl) (hini : Cond.initialized "java/lang/Math" ∈ lw_tbl) (hcd : Cond.code Lib.Math.max.name Lib.Math.max.code 2 (some .int) ∈ lw_tbl) (hR : 1 ≤ R.frames ∧ 21 ≤ R.locals) (hrest : (st.map fun v => v.category).sum ≤ 8) (hf : cells ≤ R.cells ∧ slots ≤ R.slots) (hd : decode cc pc = .ok (.invokestatic idx, 3)) (k : Z g0 d y cc nL ret tb p l e R s m args below meth c Q cells slots G L (.int (if a < b then b else a) :: st) (pc + 3)) : Z g0 d y cc nL ret tb p l e R s m args below meth c Q cells slots G L (.int b :: .int a :: st) pc :=
  fun hc H locs ls hP hS hl => va_mmax hc.x hc.b (by rw [hc.ml]; exact hl.1.symm) hc.own (hc.w hq rfl args) (hc.w hst rfl args) (hc.w hini rfl args) (hc.w hcd rfl args) hR.1 (by have := hR.2; omega) hf.1 hf.2 hd (k hc H locs ls hP hS hl)
theorem z_mmin {idx : Nat} {a b : Int32} (hq : Cond.methodLink y.cls idx Lib.Math.min.name ∈ lw_tbl) (hst : Cond.static Lib.Math.min.name ∈ lw_tbl) (hini : Cond.initialized "java/lang/Math" ∈ lw_tbl) (hcd : Cond.code Lib.Math.min.name Lib.Math.min.code 2 (some .int) ∈ lw_tbl) (hR : 1 ≤ R.frames ∧ 21 ≤ R.locals) (hrest : (st.map fun v => v.category).sum ≤ 8) (hf : cells ≤ R.cells ∧ slots ≤ R.slots) (hd : decode cc pc = .ok (.invokestatic idx, 3)) (k : Z g0 d y cc nL ret tb p l e R s m args below meth c Q cells slots G L (.int (if b < a then b else a) :: st) (pc + 3)) : Z g0 d y cc nL ret tb p l e R s m args below meth c Q cells slots G L (.int b :: .int a :: st) pc :=
  fun hc H locs ls hP hS hl => va_mmin hc.x hc.b (by rw [hc.ml]; exact hl.1.symm) hc.own (hc.w hq rfl args) (hc.w hst rfl args) (hc.w hini rfl args) (hc.w hcd rfl args) hR.1 (by have := hR.2; omega) hf.1 hf.2 hd (k hc H locs ls hP hS hl)
theorem z_acmp_eqT {a : Nat} {off : Int} (tgt : Nat) (hd : decode cc pc = .ok (.if_acmp .eq off, 3)) (ht : (pc : Int) + off = (tgt : Int)) (k : Z g0 d y cc nL ret tb p l e R s m args below meth c Q cells slots G L st tgt) : Z g0 d y cc nL ret tb p l e R s m args below meth c Q cells slots G L (.ref a :: .ref a :: st) pc :=
  fun hc H locs ls hP hS hl => lv_acmp_eq (rx := some a) (ry := some a) hc.x hc.b hd ht (fun _ => k hc H locs ls hP hS hl) (fun h => absurd rfl h)
theorem z_acmp_neF {a : Nat} {off : Int} {tgt : Nat} (hd : decode cc pc = .ok (.if_acmp .ne off, 3)) (ht : (pc : Int) + off = (tgt : Int)) (k : Z g0 d y cc nL ret tb p l e R s m args below meth c Q cells slots G L st (pc + 3)) : Z g0 d y cc nL ret tb p l e R s m args below meth c Q cells slots G L (.ref a :: .ref a :: st) pc :=
  fun hc H locs ls hP hS hl => lv_acmp_ne (rx := some a) (ry := some a) hc.x hc.b hd ht (fun h => absurd rfl h) (fun _ => k hc H locs ls hP hS hl)
theorem z_castA {idx a n : Nat} {f : Nat → Option Nat} (hq : Cond.classLink y.cls idx "[Ljava/lang/Object;" ∈ lw_tbl) (hG : G a = some (zO d n f)) (hd : decode cc pc = .ok (.checkcast idx, 3)) (k : Z g0 d y cc nL ret tb p l e R s m args below meth c Q cells slots G L (.ref a :: st) (pc + 3)) : Z g0 d y cc nL ret tb p l e R s m args below meth c Q cells slots G L (.ref a :: st) pc := by
  intro hc H locs ls hP hS hl
  obtain ⟨j, hj⟩ := hP.in hG
  exact va_castA (nm := "[Ljava/lang/Object;") hc.x hc.b hc.own (hc.w hq rfl args) hP.P j hj (va_nmO (hc.K.2 3 _ rfl).2 rfl) hd (k hc H locs ls hP hS hl)
/-- the class of an array of Objects, and the constant Object[].class -/
theorem z_getC {idx a n : Nat} {f : Nat → Option Nat} {x : MethodName} (hx : x = ⟨"java/lang/Object", "getClass", "()Ljava/lang/Class;"⟩) (hq : Cond.methodLink y.cls idx x ∈ lw_tbl) (hdc : Cond.declares x ∈ lw_tbl) (hs : Cond.selects "[Ljava/lang/Object;" x x ∈ lw_tbl) (hi : Cond.instanceMethod x ∈ lw_tbl) (hnt : Cond.native x ∈ lw_tbl) (hG : G a = some (zO d n f)) (hR : 1 ≤ R.frames ∧ 22 ≤ R.locals) (hrest : (st.map fun v => v.category).sum ≤ 8) (hd : decode cc pc = .ok (.invokevirtual idx, 3)) (k : ∀ mi, va_Mi "[Ljava/lang/Object;" mi g0 → Z g0 d y cc nL ret tb p l e R s m args below meth c Q cells slots G L (.ref mi :: st) (pc + 3)) : Z g0 d y cc nL ret tb p l e R s m args below meth c Q cells slots G L (.ref a :: st) pc := by
  subst hx
  intro hc H locs ls hP hS hl
  obtain ⟨⟨a0, h0, -, -, -, -, -, -, -, mi, hM⟩, -⟩ := id hc
  exact va_getC (C := "[Ljava/lang/Object;") hc.x hc.b (by rw [hc.ml]; exact hl.1.symm) hc.own (hc.w hq rfl args) (hc.wz hdc rfl args) (hc.w hs rfl args) (hc.w hi rfl args) (hc.w hnt rfl args) (va_Mi.moved hc.warm.alike hM) ⟨_, (hP _ _ hG).2, rfl, va_nmO (hc.K.2 3 _ rfl).2 rfl⟩ hR.1 (by have := hR.2; omega) hd (k mi hM hc H locs ls hP hS hl)
theorem z_ldcM {idx mi : Nat} (hq : Cond.classLink y.cls idx "[Ljava/lang/Object;" ∈ lw_tbl) (hM : va_Mi "[Ljava/lang/Object;" mi g0) (hd : decode cc pc = .ok (.ldc idx, 2)) (k : Z g0 d y cc nL ret tb p l e R s m args below meth c Q cells slots G L (.ref mi :: st) (pc + 2)) : Z g0 d y cc nL ret tb p l e R s m args below meth c Q cells slots G L st pc :=
  fun hc H locs ls hP hS hl => va_ldcM hc.x hc.b hc.own (hc.w hq rfl args) (va_Mi.moved hc.warm.alike hM) hd (k hc H locs ls hP hS hl)
end ZEL


def zfn : Nat → Option Nat := fun _ => none

theorem d_AS_newLength_0 : decode c_AS_newLength 0 = .ok (.iload_n 0, 1) := by decide +kernel
theorem d_AS_newLength_1 : decode c_AS_newLength 1 = .ok (.iload_n 1, 1) := by decide +kernel
theorem d_AS_newLength_2 : decode c_AS_newLength 2 = .ok (.iload_n 2, 1) := by decide +kernel
theorem d_AS_newLength_3 : decode c_AS_newLength 3 = .ok (.invokestatic 194, 3) := by decide +kernel
theorem d_AS_newLength_6 : decode c_AS_newLength 6 = .ok (.iadd, 1) := by decide +kernel
theorem d_AS_newLength_7 : decode c_AS_newLength 7 = .ok (.istore_n 3, 1) := by decide +kernel
theorem d_AS_newLength_8 : decode c_AS_newLength 8 = .ok (.iconst 0, 1) := by decide +kernel
theorem d_AS_newLength_9 : decode c_AS_newLength 9 = .ok (.iload_n 3, 1) := by decide +kernel
theorem d_AS_newLength_10 : decode c_AS_newLength 10 = .ok (.if_icmp .ge 11, 3) := by decide +kernel
theorem d_AS_newLength_13 : decode c_AS_newLength 13 = .ok (.iload_n 3, 1) := by decide +kernel
theorem d_AS_newLength_14 : decode c_AS_newLength 14 = .ok (.ldc 200, 2) := by decide +kernel
theorem d_AS_newLength_16 : decode c_AS_newLength 16 = .ok (.if_icmp .gt 5, 3) := by decide +kernel
theorem d_AS_newLength_19 : decode c_AS_newLength 19 = .ok (.iload_n 3, 1) := by decide +kernel
theorem d_AS_newLength_20 : decode c_AS_newLength 20 = .ok (.ireturn, 1) := by decide +kernel
set_option maxHeartbeats 4000000 in
set_option maxRecDepth 100000 in
theorem m_AS_newLength {g0 : State} {d : zD} {l : Launch} {a0 : Array Value} (hs0 : zS0 d a0 g0) (hst : l.stackTraces = false) {G : zG} {a b c2 : Nat} (hb : c2 ≤ a) (hb1 : 1 ≤ c2) (ha : a < 2 ^ 28) (hbb : b ≤ 1) : zMet g0 d l y_AS_newLength c_AS_newLength 4 ((Option.some Jvm.ClassFile.FieldType.int)) 2 0 0 [.int (nI a), .int (nI b), .int (nI c2)] (G) (zEq (some (.int (nI (a + c2)))) G) (zNo) := by
  refine z_entry hs0 hst (by decide) (Nat.le_of_ble_eq_true rfl) (fun p e s m args below meth c => ?_)
  refine z_iload_n 0 d_AS_newLength_0 rfl rfl ?_
  refine z_iload_n 1 d_AS_newLength_1 rfl rfl ?_
  refine z_iload_n 2 d_AS_newLength_2 rfl rfl ?_
  refine z_mmax qM_AS_194 qS_Ma_max qN_Ma qC_Ma_max ⟨by decide, by decide⟩ (Nat.le_of_ble_eq_true rfl) ⟨Nat.zero_le _, Nat.zero_le _⟩ d_AS_newLength_3 ?_
  refine z_topv (v := nI c2) (by
    by_cases h : nI b < nI c2
    · rw [if_pos h]
    · rw [if_neg h]
      have := mt (nI_ltI (a := b) (b := c2) (by omega) (by omega)).mpr h
      rw [show b = c2 by omega]) ?_
  refine z_iadd d_AS_newLength_6 ?_
  refine z_topv (nI_add a c2) ?_
  refine z_istore_n (L' := [(3, _), (0, _), (1, _), (2, _)]) d_AS_newLength_7 rfl (by decide) rfl ?_
  refine z_iconst (v := 0) d_AS_newLength_8 (by decide) ?_
  refine z_iload_n 0 d_AS_newLength_9 rfl rfl ?_
  refine z_icmp_ge 21 d_AS_newLength_10 (by decide) (fun c_10 => absurd ((nI_leI (a := a + c2) (b := 0) (by omega) (by decide)).mp c_10) (by omega)) (fun c_10 => ?_)
  refine z_iload_n 0 d_AS_newLength_13 rfl rfl ?_
  refine z_ldc qX_AS_200 d_AS_newLength_14 ?_
  refine z_icmp_gt 21 d_AS_newLength_16 (by decide) (fun c_16 => absurd ((nI_ltI (a := 2147483639) (b := a + c2) (by decide) (by omega)).mp c_16) (by omega)) (fun c_16 => ?_)
  refine z_iload_n 0 d_AS_newLength_19 rfl rfl ?_
  exact z_iret rfl (⟨rfl, rfl⟩) (by first | decide | omega) (by first | decide | omega) d_AS_newLength_20

/-- the new data behind a grown list -/
abbrev zgr (d : zD) (cap : Nat) (f : Nat → Option Nat) : va_E := zO d (cap + cap / 2) (va_cpy f zfn 0 0 cap)
theorem zel.new {d : zD} {G : zG} {v a : Nat} {w : va_E} (h : zel d G v) (hn : G a = none) : zel d (zu G a w) v := h.up (fun e => by
  subst e
  rcases h with ⟨ci2, C, T, N, ty, fs2, hz, hc, h2⟩ | ⟨n, f, h2⟩ <;> (rw [hn] at h2; cases h2))

theorem d_Ar_copyOf_3_0 : decode c_Ar_copyOf_3 0 = .ok (.aload_n 2, 1) := by decide +kernel
theorem d_Ar_copyOf_3_1 : decode c_Ar_copyOf_3 1 = .ok (.ldc 110, 2) := by decide +kernel
theorem d_Ar_copyOf_3_3 : decode c_Ar_copyOf_3 3 = .ok (.if_acmp .ne 10, 3) := by decide +kernel
theorem d_Ar_copyOf_3_6 : decode c_Ar_copyOf_3 6 = .ok (.iload_n 1, 1) := by decide +kernel
theorem d_Ar_copyOf_3_7 : decode c_Ar_copyOf_3 7 = .ok (.anewarray 2, 3) := by decide +kernel
theorem d_Ar_copyOf_3_10 : decode c_Ar_copyOf_3 10 = .ok (.goto 14, 3) := by decide +kernel
theorem d_Ar_copyOf_3_24 : decode c_Ar_copyOf_3 24 = .ok (.astore_n 3, 1) := by decide +kernel
theorem d_Ar_copyOf_3_25 : decode c_Ar_copyOf_3 25 = .ok (.aload_n 0, 1) := by decide +kernel
theorem d_Ar_copyOf_3_26 : decode c_Ar_copyOf_3 26 = .ok (.iconst 0, 1) := by decide +kernel
theorem d_Ar_copyOf_3_27 : decode c_Ar_copyOf_3 27 = .ok (.aload_n 3, 1) := by decide +kernel
theorem d_Ar_copyOf_3_28 : decode c_Ar_copyOf_3 28 = .ok (.iconst 0, 1) := by decide +kernel
theorem d_Ar_copyOf_3_29 : decode c_Ar_copyOf_3 29 = .ok (.aload_n 0, 1) := by decide +kernel
theorem d_Ar_copyOf_3_30 : decode c_Ar_copyOf_3 30 = .ok (.arraylength, 1) := by decide +kernel
theorem d_Ar_copyOf_3_31 : decode c_Ar_copyOf_3 31 = .ok (.iload_n 1, 1) := by decide +kernel
theorem d_Ar_copyOf_3_32 : decode c_Ar_copyOf_3 32 = .ok (.invokestatic 304, 3) := by decide +kernel
theorem d_Ar_copyOf_3_35 : decode c_Ar_copyOf_3 35 = .ok (.invokestatic 150, 3) := by decide +kernel
theorem d_Ar_copyOf_3_38 : decode c_Ar_copyOf_3 38 = .ok (.aload_n 3, 1) := by decide +kernel
theorem d_Ar_copyOf_3_39 : decode c_Ar_copyOf_3 39 = .ok (.areturn, 1) := by decide +kernel
set_option maxHeartbeats 4000000 in
set_option maxRecDepth 100000 in
theorem m_Ar_copyOf_3 {g0 : State} {d : zD} {l : Launch} {a0 : Array Value} (hs0 : zS0 d a0 g0) (hst : l.stackTraces = false) {mi : Nat} (hM : va_Mi "[Ljava/lang/Object;" mi g0) {G : zG} {a cap : Nat} {f : Nat → Option Nat} (hG_a : G a = some (zO d cap f)) (hcap : cap ≤ 50) (hel : ∀ i z, i < cap → f i = some z → zel d G z) : zMet g0 d l y_Ar_copyOf_3 c_Ar_copyOf_3 4 ((Option.some (Jvm.ClassFile.FieldType.array (Jvm.ClassFile.FieldType.object "java/lang/Object")))) 3 1 80 [.ref a, .int (nI (cap + cap / 2)), .ref mi] (G) (fun r G1 => ∃ b, G b = none ∧ g0.heap.size ≤ b ∧ r = some (.ref b) ∧ G1 = zu G b (zgr d cap f)) (zNo) := by
  refine z_entry hs0 hst (by decide) (Nat.le_of_ble_eq_true rfl) (fun p e s m args below meth c => ?_)
  refine z_aload_n 2 d_Ar_copyOf_3_0 rfl rfl ?_
  refine z_ldcM qK_Ar_110 hM d_Ar_copyOf_3_1 ?_
  refine z_acmp_neF (tgt := 13) d_Ar_copyOf_3_3 (by decide) ?_
  refine z_iload_n 1 d_Ar_copyOf_3_6 rfl rfl ?_
  refine z_newO (cap + cap / 2) qK_Ar_2 (nI_pos (by omega)) (nI_clamp (by omega)) (by omega) ⟨by decide, (by show 0 + (cap + cap / 2) ≤ 80; omega)⟩ d_Ar_copyOf_3_7 (fun b hn hb => ?_)
  refine z_widen (k := 1) (n := 80) (by omega) (by omega) ?_
  have nab : a ≠ b := ne_of_none hG_a hn
  have hG_a2 : zu G b (zO d (cap + cap / 2) (fun _ => none)) a = some (zO d cap f) := (zu_n nab).trans hG_a
  refine z_goto 24 d_Ar_copyOf_3_10 (by decide) ?_
  refine z_astore_n (L' := [(3, _), (0, _), (1, _), (2, _)]) d_Ar_copyOf_3_24 rfl (by decide) rfl ?_
  refine z_aload_n 1 d_Ar_copyOf_3_25 rfl rfl ?_
  refine z_iconst (v := 0) d_Ar_copyOf_3_26 (by decide) ?_
  refine z_aload_n 0 d_Ar_copyOf_3_27 rfl rfl ?_
  refine z_iconst (v := 0) d_Ar_copyOf_3_28 (by decide) ?_
  refine z_aload_n 1 d_Ar_copyOf_3_29 rfl rfl ?_
  refine z_alenO hG_a2 d_Ar_copyOf_3_30 ?_
  refine z_iload_n 2 d_Ar_copyOf_3_31 rfl rfl ?_
  refine z_mmin qM_Ar_304 qS_Ma_min qN_Ma qC_Ma_min ⟨by decide, by decide⟩ (Nat.le_of_ble_eq_true rfl) ⟨by decide, by decide⟩ d_Ar_copyOf_3_32 ?_
  refine z_topv (v := nI cap) (by
    by_cases h : nI (cap + cap / 2) < nI cap
    · exact absurd ((nI_ltI (a := cap + cap / 2) (b := cap) (by omega) (by omega)).mp h) (by omega)
    · exact if_neg h) ?_
  refine z_copyO qM_Ar_150 qNa_Sy_arraycopy_8b78 qS_Sy_arraycopy_8b78 qN_Sy hG_a2 zu_s (by omega) (Nat.le_refl cap) (by omega) (fun i z hi hz => (hel i z hi hz).new hn) ⟨by decide, by decide⟩ (Nat.le_of_ble_eq_true rfl) d_Ar_copyOf_3_35 ?_
  refine z_geq (G' := zu G b (zgr d cap f)) (by rw [zu_zu] <;> rfl) ?_
  refine z_aload_n 0 d_Ar_copyOf_3_38 rfl rfl ?_
  exact z_aret rfl (Or.inr ⟨_, rfl⟩) (Or.inr ⟨_, rfl⟩) (⟨b, hn, hb, rfl, rfl⟩) (by first | decide | omega) (by first | decide | omega) d_Ar_copyOf_3_39
theorem d_Ar_copyOf_2_0 : decode c_Ar_copyOf_2 0 = .ok (.aload_n 0, 1) := by decide +kernel
theorem d_Ar_copyOf_2_1 : decode c_Ar_copyOf_2 1 = .ok (.iload_n 1, 1) := by decide +kernel
theorem d_Ar_copyOf_2_2 : decode c_Ar_copyOf_2 2 = .ok (.aload_n 0, 1) := by decide +kernel
theorem d_Ar_copyOf_2_3 : decode c_Ar_copyOf_2 3 = .ok (.invokevirtual 86, 3) := by decide +kernel
theorem d_Ar_copyOf_2_6 : decode c_Ar_copyOf_2 6 = .ok (.invokestatic 300, 3) := by decide +kernel
theorem d_Ar_copyOf_2_9 : decode c_Ar_copyOf_2 9 = .ok (.areturn, 1) := by decide +kernel
set_option maxHeartbeats 4000000 in
set_option maxRecDepth 100000 in
theorem m_Ar_copyOf_2 {g0 : State} {d : zD} {l : Launch} {a0 : Array Value} (hs0 : zS0 d a0 g0) (hst : l.stackTraces = false) {G : zG} {a cap : Nat} {f : Nat → Option Nat} (hG_a : G a = some (zO d cap f)) (hcap : cap ≤ 50) (hel : ∀ i z, i < cap → f i = some z → zel d G z) : zMet g0 d l y_Ar_copyOf_2 c_Ar_copyOf_2 2 ((Option.some (Jvm.ClassFile.FieldType.array (Jvm.ClassFile.FieldType.object "java/lang/Object")))) 4 1 80 [.ref a, .int (nI (cap + cap / 2))] (G) (fun r G1 => ∃ b, G b = none ∧ g0.heap.size ≤ b ∧ r = some (.ref b) ∧ G1 = zu G b (zgr d cap f)) (zNo) := by
  refine z_entry hs0 hst (by decide) (Nat.le_of_ble_eq_true rfl) (fun p e s m args below meth c => ?_)
  refine z_aload_n 0 d_Ar_copyOf_2_0 rfl rfl ?_
  refine z_iload_n 1 d_Ar_copyOf_2_1 rfl rfl ?_
  refine z_aload_n 0 d_Ar_copyOf_2_2 rfl rfl ?_
  refine z_getC rfl qM_Ar_86 qD_Oj_getClass_6a1d qV__Ljava_lang_Object__Oj_getClass_6a1d qI_Oj_getClass_6a1d qNa_Oj_getClass_6a1d hG_a ⟨by decide, by decide⟩ (Nat.le_of_ble_eq_true rfl) d_Ar_copyOf_2_3 (fun mi hM => ?_)
  refine z_callSp1 (m_Ar_copyOf_3 hs0 hst hM hG_a hcap hel) ym_Ar_copyOf_3 qM_Ar_300 qS_Ar_copyOf_3 d_Ar_copyOf_2_6 rfl (Nat.le_of_ble_eq_true rfl) ⟨by decide, by decide⟩ ⟨Nat.le_of_ble_eq_true rfl, Nat.le_of_ble_eq_true rfl⟩ (fun r_6 G_6 hp_6 => ?_)
  obtain ⟨b, hn, hb, rfl, rfl⟩ := hp_6
  exact z_aret rfl (Or.inr ⟨_, rfl⟩) (Or.inr ⟨_, rfl⟩) (⟨b, hn, hb, rfl, rfl⟩) (by first | decide | omega) (by first | decide | omega) d_Ar_copyOf_2_9
theorem d_AL_grow_2_0 : decode c_AL_grow_2 0 = .ok (.aload_n 0, 1) := by decide +kernel
theorem d_AL_grow_2_1 : decode c_AL_grow_2 1 = .ok (.getfield 9, 3) := by decide +kernel
theorem d_AL_grow_2_4 : decode c_AL_grow_2 4 = .ok (.arraylength, 1) := by decide +kernel
theorem d_AL_grow_2_5 : decode c_AL_grow_2 5 = .ok (.istore_n 2, 1) := by decide +kernel
theorem d_AL_grow_2_6 : decode c_AL_grow_2 6 = .ok (.iload_n 2, 1) := by decide +kernel
theorem d_AL_grow_2_7 : decode c_AL_grow_2 7 = .ok (.ifCond .gt 13, 3) := by decide +kernel
theorem d_AL_grow_2_20 : decode c_AL_grow_2 20 = .ok (.iload_n 2, 1) := by decide +kernel
theorem d_AL_grow_2_21 : decode c_AL_grow_2 21 = .ok (.iload_n 1, 1) := by decide +kernel
theorem d_AL_grow_2_22 : decode c_AL_grow_2 22 = .ok (.iload_n 2, 1) := by decide +kernel
theorem d_AL_grow_2_23 : decode c_AL_grow_2 23 = .ok (.isub, 1) := by decide +kernel
theorem d_AL_grow_2_24 : decode c_AL_grow_2 24 = .ok (.iload_n 2, 1) := by decide +kernel
theorem d_AL_grow_2_25 : decode c_AL_grow_2 25 = .ok (.iconst 1, 1) := by decide +kernel
theorem d_AL_grow_2_26 : decode c_AL_grow_2 26 = .ok (.ishr, 1) := by decide +kernel
theorem d_AL_grow_2_27 : decode c_AL_grow_2 27 = .ok (.invokestatic 73, 3) := by decide +kernel
theorem d_AL_grow_2_30 : decode c_AL_grow_2 30 = .ok (.istore_n 3, 1) := by decide +kernel
theorem d_AL_grow_2_31 : decode c_AL_grow_2 31 = .ok (.aload_n 0, 1) := by decide +kernel
theorem d_AL_grow_2_32 : decode c_AL_grow_2 32 = .ok (.aload_n 0, 1) := by decide +kernel
theorem d_AL_grow_2_33 : decode c_AL_grow_2 33 = .ok (.getfield 9, 3) := by decide +kernel
theorem d_AL_grow_2_36 : decode c_AL_grow_2 36 = .ok (.iload_n 3, 1) := by decide +kernel
theorem d_AL_grow_2_37 : decode c_AL_grow_2 37 = .ok (.invokestatic 66, 3) := by decide +kernel
theorem d_AL_grow_2_40 : decode c_AL_grow_2 40 = .ok (.dup_x1, 1) := by decide +kernel
theorem d_AL_grow_2_41 : decode c_AL_grow_2 41 = .ok (.putfield 9, 3) := by decide +kernel
theorem d_AL_grow_2_44 : decode c_AL_grow_2 44 = .ok (.areturn, 1) := by decide +kernel
set_option maxHeartbeats 4000000 in
set_option maxRecDepth 100000 in
theorem m_AL_grow_2c {g0 : State} {d : zD} {l : Launch} {a0 : Array Value} (hs0 : zS0 d a0 g0) (hst : l.stackTraces = false) {G : zG} {h a cap : Nat} {mc : Int32} {f : Nat → Option Nat} (hA : zAL d h a cap cap mc f G) (hc1 : 2 ≤ cap) (hcap : cap ≤ 50) (hel : ∀ i z, i < cap → f i = some z → zel d G z) : zMet g0 d l y_AL_grow_2 c_AL_grow_2 4 ((Option.some (Jvm.ClassFile.FieldType.array (Jvm.ClassFile.FieldType.object "java/lang/Object")))) 5 1 80 [.ref h, .int (nI (cap + 1))] (G) (fun r G1 => ∃ b, G b = none ∧ g0.heap.size ≤ b ∧ r = some (.ref b) ∧ G1 = zu (zu G b (zgr d cap f)) h (zob 2 [.int mc, .ref b, .int (nI cap)])) (zNo) := by
  obtain ⟨hG_AL, hG_a, -, -⟩ := id hA
  have nha : h ≠ a := zOO hG_AL hG_a
  refine z_entry hs0 hst (by decide) (Nat.le_of_ble_eq_true rfl) (fun p e s m args below meth c => ?_)
  refine z_aload_n 0 d_AL_grow_2_0 rfl rfl ?_
  refine z_get zc_AL 1 (by decide) qF_AL_9 hG_AL rfl d_AL_grow_2_1 ?_
  refine z_alenO hG_a d_AL_grow_2_4 ?_
  refine z_istore_n (L' := [(2, _), (0, _), (1, _)]) d_AL_grow_2_5 rfl (by decide) rfl ?_
  refine z_iload_n 0 d_AL_grow_2_6 rfl rfl ?_
  refine z_if_gt 20 d_AL_grow_2_7 (by decide) (fun c_7 => ?_) (fun c_7 => absurd ((nI_ltI (a := 0) (b := cap) (by decide) (by omega)).mpr (by omega)) c_7)
  refine z_iload_n 0 d_AL_grow_2_20 rfl rfl ?_
  refine z_iload_n 2 d_AL_grow_2_21 rfl rfl ?_
  refine z_iload_n 0 d_AL_grow_2_22 rfl rfl ?_
  refine z_isub d_AL_grow_2_23 ?_
  refine z_topv (v := nI 1) (by rw [show nI (cap + 1) - Int32.ofNat cap = nI (cap + 1) - nI cap from rfl, pk_sub (by omega), show cap + 1 - cap = 1 by omega]) ?_
  refine z_iload_n 0 d_AL_grow_2_24 rfl rfl ?_
  refine z_iconst (v := 1) d_AL_grow_2_25 (by decide) ?_
  refine z_ishr d_AL_grow_2_26 ?_
  refine z_topv (v := nI (cap / 2)) (by rw [show Int32.ofNat cap = nI cap from rfl]; exact pk_shrN (by omega) _ 1 (by decide)) ?_
  refine z_callS0 ((m_AS_newLength hs0 hst (a := cap) (b := 1) (c2 := cap / 2) (by omega) (by omega) (by omega) (by omega))) ym_AS_newLength qM_AL_73 qS_AS_newLength d_AL_grow_2_27 rfl (Nat.le_of_ble_eq_true rfl) ⟨by decide, by decide⟩ ⟨Nat.le_of_ble_eq_true rfl, Nat.le_of_ble_eq_true rfl⟩ ?_
  refine z_istore_n (L' := [(3, _), (2, _), (0, _), (1, _)]) d_AL_grow_2_30 rfl (by decide) rfl ?_
  refine z_aload_n 2 d_AL_grow_2_31 rfl rfl ?_
  refine z_aload_n 2 d_AL_grow_2_32 rfl rfl ?_
  refine z_get zc_AL 1 (by decide) qF_AL_9 hG_AL rfl d_AL_grow_2_33 ?_
  refine z_iload_n 0 d_AL_grow_2_36 rfl rfl ?_
  refine z_callSp1 (m_Ar_copyOf_2 hs0 hst hG_a hcap hel) ym_Ar_copyOf_2 qM_AL_66 qS_Ar_copyOf_2 d_AL_grow_2_37 rfl (Nat.le_of_ble_eq_true rfl) ⟨by decide, by decide⟩ ⟨Nat.le_of_ble_eq_true rfl, Nat.le_of_ble_eq_true rfl⟩ (fun r_37 G_37 hp_37 => ?_)
  obtain ⟨b, hn, hb, rfl, rfl⟩ := hp_37
  have hG_AL : zu G b (zgr d cap f) h = some (zob 2 [.int mc, .ref a, .int (nI cap)]) := (zu_n (ne_of_none hG_AL hn)).trans hG_AL
  refine z_dup_x1 d_AL_grow_2_40 rfl rfl ?_
  refine z_put zc_AL 1 (by decide) qF_AL_9 hG_AL rfl rfl rfl (Nat.le_of_ble_eq_true rfl) d_AL_grow_2_41 ?_
  exact z_aret rfl (Or.inr ⟨_, rfl⟩) (Or.inr ⟨_, rfl⟩) (⟨b, hn, hb, rfl, rfl⟩) (by first | decide | omega) (by first | decide | omega) d_AL_grow_2_44
theorem d_AL_grow_2_10 : decode c_AL_grow_2 10 = .ok (.aload_n 0, 1) := by decide +kernel
theorem d_AL_grow_2_11 : decode c_AL_grow_2 11 = .ok (.getfield 9, 3) := by decide +kernel
theorem d_AL_grow_2_14 : decode c_AL_grow_2 14 = .ok (.getstatic 39, 3) := by decide +kernel
theorem d_AL_grow_2_17 : decode c_AL_grow_2 17 = .ok (.if_acmp .eq 28, 3) := by decide +kernel
theorem d_AL_grow_2_45 : decode c_AL_grow_2 45 = .ok (.aload_n 0, 1) := by decide +kernel
theorem d_AL_grow_2_46 : decode c_AL_grow_2 46 = .ok (.bipush 10, 2) := by decide +kernel
theorem d_AL_grow_2_48 : decode c_AL_grow_2 48 = .ok (.iload_n 1, 1) := by decide +kernel
theorem d_AL_grow_2_49 : decode c_AL_grow_2 49 = .ok (.invokestatic 79, 3) := by decide +kernel
theorem d_AL_grow_2_52 : decode c_AL_grow_2 52 = .ok (.anewarray 7, 3) := by decide +kernel
theorem d_AL_grow_2_55 : decode c_AL_grow_2 55 = .ok (.dup_x1, 1) := by decide +kernel
theorem d_AL_grow_2_56 : decode c_AL_grow_2 56 = .ok (.putfield 9, 3) := by decide +kernel
theorem d_AL_grow_2_59 : decode c_AL_grow_2 59 = .ok (.areturn, 1) := by decide +kernel
set_option maxHeartbeats 4000000 in
set_option maxRecDepth 100000 in
theorem m_AL_grow_2a {g0 : State} {d : zD} {l : Launch} {a0 : Array Value} (hs0 : zS0 d a0 g0) (hst : l.stackTraces = false) {G : zG} {h : Nat} {mc : Int32} (hG_AL : G h = some (zob 2 [.int mc, .ref d.2.2, .int (nI 0)])) : zMet g0 d l y_AL_grow_2 c_AL_grow_2 4 ((Option.some (Jvm.ClassFile.FieldType.array (Jvm.ClassFile.FieldType.object "java/lang/Object")))) 5 1 80 [.ref h, .int (nI 1)] (G) (fun r G1 => ∃ b, G b = none ∧ g0.heap.size ≤ b ∧ r = some (.ref b) ∧ G1 = zu (zu G b (zO d 10 zfn)) h (zob 2 [.int mc, .ref b, .int (nI 0)])) (zNo) := by
  refine z_entry hs0 hst (by decide) (Nat.le_of_ble_eq_true rfl) (fun p e s m args below meth c => ?_)
  refine z_aload_n 0 d_AL_grow_2_0 rfl rfl ?_
  refine z_get zc_AL 1 (by decide) qF_AL_9 hG_AL rfl d_AL_grow_2_1 ?_
  refine z_alen0 d_AL_grow_2_4 ?_
  refine z_istore_n (L' := [(2, _), (0, _), (1, _)]) d_AL_grow_2_5 rfl (by decide) rfl ?_
  refine z_iload_n 0 d_AL_grow_2_6 rfl rfl ?_
  refine z_if_gt 20 d_AL_grow_2_7 (by decide) (fun c_7 => absurd c_7 (by decide)) (fun c_7 => ?_)
  refine z_aload_n 1 d_AL_grow_2_10 rfl rfl ?_
  refine z_get zc_AL 1 (by decide) qF_AL_9 hG_AL rfl d_AL_grow_2_11 ?_
  refine z_gets0 qF_AL_39 d_AL_grow_2_14 ?_
  refine z_acmp_eqT 45 d_AL_grow_2_17 (by decide) ?_
  refine z_aload_n 1 d_AL_grow_2_45 rfl rfl ?_
  refine z_bipush (v := 10) d_AL_grow_2_46 (by decide) ?_
  refine z_iload_n 2 d_AL_grow_2_48 rfl rfl ?_
  refine z_mmax qM_AL_79 qS_Ma_max qN_Ma qC_Ma_max ⟨by decide, by decide⟩ (Nat.le_of_ble_eq_true rfl) ⟨Nat.zero_le _, Nat.zero_le _⟩ d_AL_grow_2_49 ?_
  refine z_topv (v := 10) (by decide) ?_
  refine z_newO 10 qK_AL_7 (by decide) (by decide) (by decide) ⟨by decide, by decide⟩ d_AL_grow_2_52 (fun b hn hb => ?_)
  refine z_widen (k := 1) (n := 80) (by omega) (by omega) ?_
  have hG_AL : zu G b (zO d 10 zfn) h = some (zob 2 [.int mc, .ref d.2.2, .int (nI 0)]) := (zu_n (ne_of_none hG_AL hn)).trans hG_AL
  refine z_dup_x1 d_AL_grow_2_55 rfl rfl ?_
  refine z_put zc_AL 1 (by decide) qF_AL_9 hG_AL rfl rfl rfl (Nat.le_of_ble_eq_true rfl) d_AL_grow_2_56 ?_
  exact z_aret rfl (Or.inr ⟨_, rfl⟩) (Or.inr ⟨_, rfl⟩) (⟨b, hn, hb, rfl, rfl⟩) (by first | decide | omega) (by first | decide | omega) d_AL_grow_2_59
theorem d_AL_grow_1_0 : decode c_AL_grow_1 0 = .ok (.aload_n 0, 1) := by decide +kernel
theorem d_AL_grow_1_1 : decode c_AL_grow_1 1 = .ok (.aload_n 0, 1) := by decide +kernel
theorem d_AL_grow_1_2 : decode c_AL_grow_1 2 = .ok (.getfield 48, 3) := by decide +kernel
theorem d_AL_grow_1_5 : decode c_AL_grow_1 5 = .ok (.iconst 1, 1) := by decide +kernel
theorem d_AL_grow_1_6 : decode c_AL_grow_1 6 = .ok (.iadd, 1) := by decide +kernel
theorem d_AL_grow_1_7 : decode c_AL_grow_1 7 = .ok (.invokevirtual 69, 3) := by decide +kernel
theorem d_AL_grow_1_10 : decode c_AL_grow_1 10 = .ok (.areturn, 1) := by decide +kernel
set_option maxHeartbeats 4000000 in
set_option maxRecDepth 100000 in
theorem m_AL_grow_1a {g0 : State} {d : zD} {l : Launch} {a0 : Array Value} (hs0 : zS0 d a0 g0) (hst : l.stackTraces = false) {G : zG} {h : Nat} {mc : Int32} (hG_AL : G h = some (zob 2 [.int mc, .ref d.2.2, .int (nI 0)])) : zMet g0 d l y_AL_grow_1 c_AL_grow_1 1 ((Option.some (Jvm.ClassFile.FieldType.array (Jvm.ClassFile.FieldType.object "java/lang/Object")))) 6 1 80 [.ref h] (G) (fun r G1 => ∃ b, G b = none ∧ g0.heap.size ≤ b ∧ r = some (.ref b) ∧ G1 = zu (zu G b (zO d 10 zfn)) h (zob 2 [.int mc, .ref b, .int (nI 0)])) (zNo) := by
  refine z_entry hs0 hst (by decide) (Nat.le_of_ble_eq_true rfl) (fun p e s m args below meth c => ?_)
  refine z_aload_n 0 d_AL_grow_1_0 rfl rfl ?_
  refine z_aload_n 0 d_AL_grow_1_1 rfl rfl ?_
  refine z_get zc_AL 2 (by decide) qF_AL_48 hG_AL rfl d_AL_grow_1_2 ?_
  refine z_iconst (v := 1) d_AL_grow_1_5 (by decide) ?_
  refine z_iadd d_AL_grow_1_6 ?_
  refine z_topv (v := nI (0 + 1)) (nI_1 0) ?_
  refine z_callVp1 ((m_AL_grow_2a hs0 hst hG_AL)) ym_AL_grow_2 qM_AL_69 qI_AL_grow_2 qV_AL_AL_grow_2 zc_AL hG_AL d_AL_grow_1_7 rfl (Nat.le_of_ble_eq_true rfl) ⟨by decide, by decide⟩ ⟨Nat.le_of_ble_eq_true rfl, Nat.le_of_ble_eq_true rfl⟩ (fun r_7 G_7 hp_7 => ?_)
  obtain ⟨b, hn, hb, rfl, rfl⟩ := hp_7
  exact z_aret rfl (Or.inr ⟨_, rfl⟩) (Or.inr ⟨_, rfl⟩) (⟨b, hn, hb, rfl, rfl⟩) (by first | decide | omega) (by first | decide | omega) d_AL_grow_1_10
set_option maxHeartbeats 4000000 in
set_option maxRecDepth 100000 in
theorem m_AL_grow_1c {g0 : State} {d : zD} {l : Launch} {a0 : Array Value} (hs0 : zS0 d a0 g0) (hst : l.stackTraces = false) {G : zG} {h a cap : Nat} {mc : Int32} {f : Nat → Option Nat} (hA : zAL d h a cap cap mc f G) (hc1 : 2 ≤ cap) (hcap : cap ≤ 50) (hel : ∀ i z, i < cap → f i = some z → zel d G z) : zMet g0 d l y_AL_grow_1 c_AL_grow_1 1 ((Option.some (Jvm.ClassFile.FieldType.array (Jvm.ClassFile.FieldType.object "java/lang/Object")))) 6 1 80 [.ref h] (G) (fun r G1 => ∃ b, G b = none ∧ g0.heap.size ≤ b ∧ r = some (.ref b) ∧ G1 = zu (zu G b (zgr d cap f)) h (zob 2 [.int mc, .ref b, .int (nI cap)])) (zNo) := by
  obtain ⟨hG_AL, hG_a, -, -⟩ := id hA
  refine z_entry hs0 hst (by decide) (Nat.le_of_ble_eq_true rfl) (fun p e s m args below meth c => ?_)
  refine z_aload_n 0 d_AL_grow_1_0 rfl rfl ?_
  refine z_aload_n 0 d_AL_grow_1_1 rfl rfl ?_
  refine z_get zc_AL 2 (by decide) qF_AL_48 hG_AL rfl d_AL_grow_1_2 ?_
  refine z_iconst (v := 1) d_AL_grow_1_5 (by decide) ?_
  refine z_iadd d_AL_grow_1_6 ?_
  refine z_topv (v := nI (cap + 1)) (nI_1 cap) ?_
  refine z_callVp1 ((m_AL_grow_2c hs0 hst hA hc1 hcap hel)) ym_AL_grow_2 qM_AL_69 qI_AL_grow_2 qV_AL_AL_grow_2 zc_AL hG_AL d_AL_grow_1_7 rfl (Nat.le_of_ble_eq_true rfl) ⟨by decide, by decide⟩ ⟨Nat.le_of_ble_eq_true rfl, Nat.le_of_ble_eq_true rfl⟩ (fun r_7 G_7 hp_7 => ?_)
  obtain ⟨b, hn, hb, rfl, rfl⟩ := hp_7
  exact z_aret rfl (Or.inr ⟨_, rfl⟩) (Or.inr ⟨_, rfl⟩) (⟨b, hn, hb, rfl, rfl⟩) (by first | decide | omega) (by first | decide | omega) d_AL_grow_1_10
theorem d_AL_add_2_0 : decode c_AL_add_2 0 = .ok (.iload_n 3, 1) := by decide +kernel
theorem d_AL_add_2_1 : decode c_AL_add_2 1 = .ok (.aload_n 2, 1) := by decide +kernel
theorem d_AL_add_2_2 : decode c_AL_add_2 2 = .ok (.arraylength, 1) := by decide +kernel
theorem d_AL_add_2_3 : decode c_AL_add_2 3 = .ok (.if_icmp .ne 8, 3) := by decide +kernel
theorem d_AL_add_2_6 : decode c_AL_add_2 6 = .ok (.aload_n 0, 1) := by decide +kernel
theorem d_AL_add_2_7 : decode c_AL_add_2 7 = .ok (.invokevirtual 129, 3) := by decide +kernel
theorem d_AL_add_2_10 : decode c_AL_add_2 10 = .ok (.astore_n 2, 1) := by decide +kernel
theorem d_AL_add_2_11 : decode c_AL_add_2 11 = .ok (.aload_n 2, 1) := by decide +kernel
theorem d_AL_add_2_12 : decode c_AL_add_2 12 = .ok (.iload_n 3, 1) := by decide +kernel
theorem d_AL_add_2_13 : decode c_AL_add_2 13 = .ok (.aload_n 1, 1) := by decide +kernel
theorem d_AL_add_2_14 : decode c_AL_add_2 14 = .ok (.aastore, 1) := by decide +kernel
theorem d_AL_add_2_15 : decode c_AL_add_2 15 = .ok (.aload_n 0, 1) := by decide +kernel
theorem d_AL_add_2_16 : decode c_AL_add_2 16 = .ok (.iload_n 3, 1) := by decide +kernel
theorem d_AL_add_2_17 : decode c_AL_add_2 17 = .ok (.iconst 1, 1) := by decide +kernel
theorem d_AL_add_2_18 : decode c_AL_add_2 18 = .ok (.iadd, 1) := by decide +kernel
theorem d_AL_add_2_19 : decode c_AL_add_2 19 = .ok (.putfield 48, 3) := by decide +kernel
theorem d_AL_add_2_22 : decode c_AL_add_2 22 = .ok (.return_, 1) := by decide +kernel
set_option maxHeartbeats 4000000 in
set_option maxRecDepth 100000 in
theorem m_AL_add_2a {g0 : State} {d : zD} {l : Launch} {a0 : Array Value} (hs0 : zS0 d a0 g0) (hst : l.stackTraces = false) {G : zG} {h v : Nat} {mc : Int32} (hG_AL : G h = some (zob 2 [.int mc, .ref d.2.2, .int (nI 0)])) (hv : zel d G v) : zMet g0 d l y_AL_add_2 c_AL_add_2 4 ((Option.none : Option Jvm.ClassFile.FieldType)) 7 1 80 [.ref h, .ref v, .ref d.2.2, .int (nI 0)] (G) (fun r G1 => r = none ∧ ∃ b, G b = none ∧ g0.heap.size ≤ b ∧ h ≠ b ∧ G1 = zu (zu G b (zO d 10 (va_up zfn 0 (some v)))) h (zob 2 [.int mc, .ref b, .int (nI (0 + 1))])) (zNo) := by
  refine z_entry hs0 hst (by decide) (Nat.le_of_ble_eq_true rfl) (fun p e s m args below meth c => ?_)
  refine z_iload_n 3 d_AL_add_2_0 rfl rfl ?_
  refine z_aload_n 2 d_AL_add_2_1 rfl rfl ?_
  refine z_alen0 d_AL_add_2_2 ?_
  refine z_icmp_ne 11 d_AL_add_2_3 (by decide) (fun c_3 => absurd rfl c_3) (fun c_3 => ?_)
  refine z_aload_n 0 d_AL_add_2_6 rfl rfl ?_
  refine z_callVp1 ((m_AL_grow_1a hs0 hst hG_AL)) ym_AL_grow_1 qM_AL_129 qI_AL_grow_1 qV_AL_AL_grow_1 zc_AL hG_AL d_AL_add_2_7 rfl (Nat.le_of_ble_eq_true rfl) ⟨by decide, by decide⟩ ⟨Nat.le_of_ble_eq_true rfl, Nat.le_of_ble_eq_true rfl⟩ (fun r_7 G_7 hp_7 => ?_)
  obtain ⟨b, hn, hb, rfl, rfl⟩ := hp_7
  have nhb : h ≠ b := ne_of_none hG_AL hn
  have hG_b : zu (zu G b (zO d 10 zfn)) h (zob 2 [.int mc, .ref b, .int (nI 0)]) b = some (zO d 10 zfn) := (zu_n nhb.symm).trans zu_s
  have hG_AL2 := zu_s (G := zu G b (zO d 10 zfn)) (a := h) (v := zob 2 [.int mc, .ref b, .int (nI 0)])
  have hv2 : zel d (zu (zu G b (zO d 10 zfn)) h (zob 2 [.int mc, .ref b, .int (nI 0)])) v := (hv.new hn).up (fun e => by
    subst e
    exact ⟨_, _, (zu_n nhb).trans hG_AL, _, rfl⟩)
  refine z_astore_n (L' := [(2, _), (0, _), (1, _), (3, _)]) d_AL_add_2_10 rfl (by decide) rfl ?_
  refine z_aload_n 0 d_AL_add_2_11 rfl rfl ?_
  refine z_iload_n 3 d_AL_add_2_12 rfl rfl ?_
  refine z_aload_n 2 d_AL_add_2_13 rfl rfl ?_
  refine z_aastM hG_b hv2 (vp_in_nI (by omega) (by omega)) d_AL_add_2_14 ?_
  rw [nI_clamp (show 0 < 2 ^ 31 by omega)]
  have hG_AL := (zu_n (v := zO d 10 (va_up zfn 0 (some v))) nhb).trans hG_AL2
  refine z_aload_n 1 d_AL_add_2_15 rfl rfl ?_
  refine z_iload_n 3 d_AL_add_2_16 rfl rfl ?_
  refine z_iconst (v := 1) d_AL_add_2_17 (by decide) ?_
  refine z_iadd d_AL_add_2_18 ?_
  refine z_topv (v := nI (0 + 1)) (nI_1 0) ?_
  refine z_put zc_AL 2 (by decide) qF_AL_48 hG_AL rfl rfl rfl (Nat.le_of_ble_eq_true rfl) d_AL_add_2_19 ?_
  exact z_vret rfl (⟨rfl, b, hn, hb, nhb, by rw [zu_comm nhb, zu_zu, zu_zu] <;> rfl⟩) (by first | decide | omega) (by first | decide | omega) d_AL_add_2_22
set_option maxHeartbeats 4000000 in
set_option maxRecDepth 100000 in
theorem m_AL_add_2b {g0 : State} {d : zD} {l : Launch} {a0 : Array Value} (hs0 : zS0 d a0 g0) (hst : l.stackTraces = false) {G : zG} {h a cap : Nat} {mc : Int32} {f : Nat → Option Nat} {n v : Nat} (hA : zAL d h a cap n mc f G) (hr : n < cap) (hv : zel d G v) : zMet g0 d l y_AL_add_2 c_AL_add_2 4 ((Option.none : Option Jvm.ClassFile.FieldType)) 1 0 0 [.ref h, .ref v, .ref a, .int (nI n)] (G) (zEq none (zu (zu G a (zO d cap (va_up f n (some v)))) h (zob 2 [.int mc, .ref a, .int (nI (n + 1))]))) (zNo) := by
  obtain ⟨hG_AL, hG_a, -, hcp⟩ := id hA
  refine z_entry hs0 hst (by decide) (Nat.le_of_ble_eq_true rfl) (fun p e s m args below meth c => ?_)
  refine z_iload_n 3 d_AL_add_2_0 rfl rfl ?_
  refine z_aload_n 2 d_AL_add_2_1 rfl rfl ?_
  refine z_alenO hG_a d_AL_add_2_2 ?_
  refine z_icmp_ne 11 d_AL_add_2_3 (by decide) (fun c_3 => ?_) (fun c_3 => absurd ((nI_eq (a := n) (b := cap) (by omega) (by omega)).mp c_3) (by omega))
  refine z_aload_n 2 d_AL_add_2_11 rfl rfl ?_
  refine z_iload_n 3 d_AL_add_2_12 rfl rfl ?_
  refine z_aload_n 1 d_AL_add_2_13 rfl rfl ?_
  refine z_aastM hG_a hv (vp_in_nI hr (by omega)) d_AL_add_2_14 ?_
  rw [nI_clamp (show n < 2 ^ 31 by omega)]
  have hG_AL := (zu_n (v := zO d cap (va_up f n (some v))) (zOO hG_AL hG_a)).trans hG_AL
  refine z_aload_n 0 d_AL_add_2_15 rfl rfl ?_
  refine z_iload_n 3 d_AL_add_2_16 rfl rfl ?_
  refine z_iconst (v := 1) d_AL_add_2_17 (by decide) ?_
  refine z_iadd d_AL_add_2_18 ?_
  refine z_topv (v := nI (n + 1)) (nI_1 n) ?_
  refine z_put zc_AL 2 (by decide) qF_AL_48 hG_AL rfl rfl rfl (Nat.le_of_ble_eq_true rfl) d_AL_add_2_19 ?_
  exact z_vret rfl (⟨rfl, rfl⟩) (by first | decide | omega) (by first | decide | omega) d_AL_add_2_22
set_option maxHeartbeats 4000000 in
set_option maxRecDepth 100000 in
theorem m_AL_add_2c {g0 : State} {d : zD} {l : Launch} {a0 : Array Value} (hs0 : zS0 d a0 g0) (hst : l.stackTraces = false) {G : zG} {h a cap : Nat} {mc : Int32} {f : Nat → Option Nat} {v : Nat} (hA : zAL d h a cap cap mc f G) (hc1 : 2 ≤ cap) (hcap : cap ≤ 50) (hel : ∀ i z, i < cap → f i = some z → zel d G z) (hv : zel d G v) : zMet g0 d l y_AL_add_2 c_AL_add_2 4 ((Option.none : Option Jvm.ClassFile.FieldType)) 7 1 80 [.ref h, .ref v, .ref a, .int (nI cap)] (G) (fun r G1 => r = none ∧ ∃ b, G b = none ∧ g0.heap.size ≤ b ∧ h ≠ b ∧ G1 = zu (zu G b (zO d (cap + cap / 2) (va_up (va_cpy f zfn 0 0 cap) cap (some v)))) h (zob 2 [.int mc, .ref b, .int (nI (cap + 1))])) (zNo) := by
  obtain ⟨hG_AL, hG_a, -, -⟩ := id hA
  refine z_entry hs0 hst (by decide) (Nat.le_of_ble_eq_true rfl) (fun p e s m args below meth c => ?_)
  refine z_iload_n 3 d_AL_add_2_0 rfl rfl ?_
  refine z_aload_n 2 d_AL_add_2_1 rfl rfl ?_
  refine z_alenO hG_a d_AL_add_2_2 ?_
  refine z_icmp_ne 11 d_AL_add_2_3 (by decide) (fun c_3 => absurd rfl c_3) (fun c_3 => ?_)
  refine z_aload_n 0 d_AL_add_2_6 rfl rfl ?_
  refine z_callVp1 ((m_AL_grow_1c hs0 hst hA hc1 hcap hel)) ym_AL_grow_1 qM_AL_129 qI_AL_grow_1 qV_AL_AL_grow_1 zc_AL hG_AL d_AL_add_2_7 rfl (Nat.le_of_ble_eq_true rfl) ⟨by decide, by decide⟩ ⟨Nat.le_of_ble_eq_true rfl, Nat.le_of_ble_eq_true rfl⟩ (fun r_7 G_7 hp_7 => ?_)
  obtain ⟨b, hn, hb, rfl, rfl⟩ := hp_7
  have nhb : h ≠ b := ne_of_none hG_AL hn
  have hG_b : zu (zu G b (zgr d cap f)) h (zob 2 [.int mc, .ref b, .int (nI cap)]) b = some (zgr d cap f) := (zu_n nhb.symm).trans zu_s
  have hG_AL2 := zu_s (G := zu G b (zgr d cap f)) (a := h) (v := zob 2 [.int mc, .ref b, .int (nI cap)])
  have hv2 : zel d (zu (zu G b (zgr d cap f)) h (zob 2 [.int mc, .ref b, .int (nI cap)])) v := (hv.new hn).up (fun e => by
    subst e
    exact ⟨_, _, (zu_n nhb).trans hG_AL, _, rfl⟩)
  refine z_astore_n (L' := [(2, _), (0, _), (1, _), (3, _)]) d_AL_add_2_10 rfl (by decide) rfl ?_
  refine z_aload_n 0 d_AL_add_2_11 rfl rfl ?_
  refine z_iload_n 3 d_AL_add_2_12 rfl rfl ?_
  refine z_aload_n 2 d_AL_add_2_13 rfl rfl ?_
  refine z_aastM hG_b hv2 (vp_in_nI (by omega) (by omega)) d_AL_add_2_14 ?_
  rw [nI_clamp (show cap < 2 ^ 31 by omega)]
  have hG_AL := (zu_n (v := zO d (cap + cap / 2) (va_up (va_cpy f zfn 0 0 cap) cap (some v))) nhb).trans hG_AL2
  refine z_aload_n 1 d_AL_add_2_15 rfl rfl ?_
  refine z_iload_n 3 d_AL_add_2_16 rfl rfl ?_
  refine z_iconst (v := 1) d_AL_add_2_17 (by decide) ?_
  refine z_iadd d_AL_add_2_18 ?_
  refine z_topv (v := nI (cap + 1)) (nI_1 cap) ?_
  refine z_put zc_AL 2 (by decide) qF_AL_48 hG_AL rfl rfl rfl (Nat.le_of_ble_eq_true rfl) d_AL_add_2_19 ?_
  exact z_vret rfl (⟨rfl, b, hn, hb, nhb, by rw [zu_comm nhb, zu_zu, zu_zu] <;> rfl⟩) (by first | decide | omega) (by first | decide | omega) d_AL_add_2_22
theorem d_AL_add_1_0 : decode c_AL_add_1 0 = .ok (.aload_n 0, 1) := by decide +kernel
theorem d_AL_add_1_1 : decode c_AL_add_1 1 = .ok (.dup, 1) := by decide +kernel
theorem d_AL_add_1_2 : decode c_AL_add_1 2 = .ok (.getfield 63, 3) := by decide +kernel
theorem d_AL_add_1_5 : decode c_AL_add_1 5 = .ok (.iconst 1, 1) := by decide +kernel
theorem d_AL_add_1_6 : decode c_AL_add_1 6 = .ok (.iadd, 1) := by decide +kernel
theorem d_AL_add_1_7 : decode c_AL_add_1 7 = .ok (.putfield 63, 3) := by decide +kernel
theorem d_AL_add_1_10 : decode c_AL_add_1 10 = .ok (.aload_n 0, 1) := by decide +kernel
theorem d_AL_add_1_11 : decode c_AL_add_1 11 = .ok (.aload_n 1, 1) := by decide +kernel
theorem d_AL_add_1_12 : decode c_AL_add_1 12 = .ok (.aload_n 0, 1) := by decide +kernel
theorem d_AL_add_1_13 : decode c_AL_add_1 13 = .ok (.getfield 9, 3) := by decide +kernel
theorem d_AL_add_1_16 : decode c_AL_add_1 16 = .ok (.aload_n 0, 1) := by decide +kernel
theorem d_AL_add_1_17 : decode c_AL_add_1 17 = .ok (.getfield 48, 3) := by decide +kernel
theorem d_AL_add_1_20 : decode c_AL_add_1 20 = .ok (.invokevirtual 131, 3) := by decide +kernel
theorem d_AL_add_1_23 : decode c_AL_add_1 23 = .ok (.iconst 1, 1) := by decide +kernel
theorem d_AL_add_1_24 : decode c_AL_add_1 24 = .ok (.ireturn, 1) := by decide +kernel
set_option maxHeartbeats 4000000 in
set_option maxRecDepth 100000 in
theorem m_AL_add_1a {g0 : State} {d : zD} {l : Launch} {a0 : Array Value} (hs0 : zS0 d a0 g0) (hst : l.stackTraces = false) {G : zG} {h v : Nat} {mc : Int32} (hG_AL : G h = some (zob 2 [.int mc, .ref d.2.2, .int (nI 0)])) (hv : zel d G v) : zMet g0 d l y_AL_add_1 c_AL_add_1 2 ((Option.some Jvm.ClassFile.FieldType.boolean)) 8 1 80 [.ref h, .ref v] (G) (fun r G1 => r = some (.int 1) ∧ ∃ b, G b = none ∧ g0.heap.size ≤ b ∧ h ≠ b ∧ G1 = zu (zu G b (zO d 10 (va_up zfn 0 (some v)))) h (zob 2 [.int (mc + 1), .ref b, .int (nI (0 + 1))])) (zNo) := by
  refine z_entry hs0 hst (by decide) (Nat.le_of_ble_eq_true rfl) (fun p e s m args below meth c => ?_)
  refine z_aload_n 0 d_AL_add_1_0 rfl rfl ?_
  refine z_dup d_AL_add_1_1 rfl ?_
  refine z_getS zc_AL 0 (by decide) qF_AL_63 qSf_AL_javautilAbstractList_modCount_I hG_AL rfl d_AL_add_1_2 ?_
  refine z_iconst (v := 1) d_AL_add_1_5 (by decide) ?_
  refine z_iadd d_AL_add_1_6 ?_
  refine z_putS zc_AL 0 (by decide) qF_AL_63 qSf_AL_javautilAbstractList_modCount_I hG_AL rfl rfl rfl (Nat.le_of_ble_eq_true rfl) d_AL_add_1_7 ?_
  have hG_AL1 := zu_s (G := G) (a := h) (v := zob 2 [.int (mc + 1), .ref d.2.2, .int (nI 0)])
  have hv1 : zel d (zu G h (zob 2 [.int (mc + 1), .ref d.2.2, .int (nI 0)])) v := hv.up (fun e => by
    subst e
    exact ⟨_, _, hG_AL, _, rfl⟩)
  have hG_AL := hG_AL1
  refine z_aload_n 0 d_AL_add_1_10 rfl rfl ?_
  refine z_aload_n 1 d_AL_add_1_11 rfl rfl ?_
  refine z_aload_n 0 d_AL_add_1_12 rfl rfl ?_
  refine z_get zc_AL 1 (by decide) qF_AL_9 hG_AL rfl d_AL_add_1_13 ?_
  refine z_aload_n 0 d_AL_add_1_16 rfl rfl ?_
  refine z_get zc_AL 2 (by decide) qF_AL_48 hG_AL rfl d_AL_add_1_17 ?_
  refine z_callVp1 ((m_AL_add_2a hs0 hst hG_AL1 hv1)) ym_AL_add_2 qM_AL_131 qI_AL_add_2 qV_AL_AL_add_2 zc_AL hG_AL d_AL_add_1_20 rfl (Nat.le_of_ble_eq_true rfl) ⟨by decide, by decide⟩ ⟨Nat.le_of_ble_eq_true rfl, Nat.le_of_ble_eq_true rfl⟩ (fun r_20 G_20 hp_20 => ?_)
  obtain ⟨rfl, b, hn, hb, nhb, rfl⟩ := hp_20
  refine z_iconst (v := 1) d_AL_add_1_23 (by decide) ?_
  exact z_zret rfl (by first | rfl | exact zb_nar _) (⟨rfl, b, by rw [zu_n nhb.symm] at hn; exact hn, hb, nhb, by rw [zu_comm nhb, zu_zu]⟩) (by first | decide | omega) (by first | decide | omega) d_AL_add_1_24
set_option maxHeartbeats 4000000 in
set_option maxRecDepth 100000 in
theorem m_AL_add_1b {g0 : State} {d : zD} {l : Launch} {a0 : Array Value} (hs0 : zS0 d a0 g0) (hst : l.stackTraces = false) {G : zG} {h a cap : Nat} {mc : Int32} {f : Nat → Option Nat} {n v : Nat} (hA : zAL d h a cap n mc f G) (hr : n < cap) (hv : zel d G v) : zMet g0 d l y_AL_add_1 c_AL_add_1 2 ((Option.some Jvm.ClassFile.FieldType.boolean)) 8 0 0 [.ref h, .ref v] (G) (zEq (some (.int 1)) (zu (zu G a (zO d cap (va_up f n (some v)))) h (zob 2 [.int (mc + 1), .ref a, .int (nI (n + 1))]))) (zNo) := by
  obtain ⟨hG_AL, hG_a, hncp, hcp⟩ := id hA
  have hG_AL0 := hG_AL
  refine z_entry hs0 hst (by decide) (Nat.le_of_ble_eq_true rfl) (fun p e s m args below meth c => ?_)
  refine z_aload_n 0 d_AL_add_1_0 rfl rfl ?_
  refine z_dup d_AL_add_1_1 rfl ?_
  refine z_getS zc_AL 0 (by decide) qF_AL_63 qSf_AL_javautilAbstractList_modCount_I hG_AL rfl d_AL_add_1_2 ?_
  refine z_iconst (v := 1) d_AL_add_1_5 (by decide) ?_
  refine z_iadd d_AL_add_1_6 ?_
  refine z_putS zc_AL 0 (by decide) qF_AL_63 qSf_AL_javautilAbstractList_modCount_I hG_AL rfl rfl rfl (Nat.le_of_ble_eq_true rfl) d_AL_add_1_7 ?_
  have hG_AL1 := zu_s (G := G) (a := h) (v := zob 2 [.int (mc + 1), .ref a, .int (nI n)])
  have hv1 : zel d (zu G h (zob 2 [.int (mc + 1), .ref a, .int (nI n)])) v := hv.up (fun e => by
    subst e
    exact ⟨_, _, hG_AL, _, rfl⟩)
  have hG_a1 : zu G h (zob 2 [.int (mc + 1), .ref a, .int (nI n)]) a = some (zO d cap f) := (zu_n (zOO hG_AL hG_a).symm).trans hG_a
  have hA1 : zAL d h a cap n (mc + 1) f (zu G h (zob 2 [.int (mc + 1), .ref a, .int (nI n)])) := ⟨hG_AL1, hG_a1, hncp, hcp⟩
  have hG_AL := hG_AL1
  refine z_aload_n 0 d_AL_add_1_10 rfl rfl ?_
  refine z_aload_n 1 d_AL_add_1_11 rfl rfl ?_
  refine z_aload_n 0 d_AL_add_1_12 rfl rfl ?_
  refine z_get zc_AL 1 (by decide) qF_AL_9 hG_AL rfl d_AL_add_1_13 ?_
  refine z_aload_n 0 d_AL_add_1_16 rfl rfl ?_
  refine z_get zc_AL 2 (by decide) qF_AL_48 hG_AL rfl d_AL_add_1_17 ?_
  refine z_callV0 ((m_AL_add_2b hs0 hst hA1 hr hv1)) ym_AL_add_2 qM_AL_131 qI_AL_add_2 qV_AL_AL_add_2 zc_AL hG_AL d_AL_add_1_20 rfl (Nat.le_of_ble_eq_true rfl) ⟨Nat.zero_le _, Nat.zero_le _⟩ ⟨Nat.le_of_ble_eq_true rfl, Nat.le_of_ble_eq_true rfl⟩ ?_
  refine z_iconst (v := 1) d_AL_add_1_23 (by decide) ?_
  exact z_zret rfl (by first | rfl | exact zb_nar _) (⟨rfl, by rw [zu_comm (zOO hG_AL0 hG_a), zu_zu]⟩) (by first | decide | omega) (by first | decide | omega) d_AL_add_1_24
set_option maxHeartbeats 4000000 in
set_option maxRecDepth 100000 in
theorem m_AL_add_1c {g0 : State} {d : zD} {l : Launch} {a0 : Array Value} (hs0 : zS0 d a0 g0) (hst : l.stackTraces = false) {G : zG} {h a cap : Nat} {mc : Int32} {f : Nat → Option Nat} {v : Nat} (hA : zAL d h a cap cap mc f G) (hc1 : 2 ≤ cap) (hcap : cap ≤ 50) (hel : ∀ i z, i < cap → f i = some z → zel d G z) (hv : zel d G v) : zMet g0 d l y_AL_add_1 c_AL_add_1 2 ((Option.some Jvm.ClassFile.FieldType.boolean)) 8 1 80 [.ref h, .ref v] (G) (fun r G1 => r = some (.int 1) ∧ ∃ b, G b = none ∧ g0.heap.size ≤ b ∧ h ≠ b ∧ G1 = zu (zu G b (zO d (cap + cap / 2) (va_up (va_cpy f zfn 0 0 cap) cap (some v)))) h (zob 2 [.int (mc + 1), .ref b, .int (nI (cap + 1))])) (zNo) := by
  obtain ⟨hG_AL, hG_a, hncp, hcp⟩ := id hA
  refine z_entry hs0 hst (by decide) (Nat.le_of_ble_eq_true rfl) (fun p e s m args below meth c => ?_)
  refine z_aload_n 0 d_AL_add_1_0 rfl rfl ?_
  refine z_dup d_AL_add_1_1 rfl ?_
  refine z_getS zc_AL 0 (by decide) qF_AL_63 qSf_AL_javautilAbstractList_modCount_I hG_AL rfl d_AL_add_1_2 ?_
  refine z_iconst (v := 1) d_AL_add_1_5 (by decide) ?_
  refine z_iadd d_AL_add_1_6 ?_
  refine z_putS zc_AL 0 (by decide) qF_AL_63 qSf_AL_javautilAbstractList_modCount_I hG_AL rfl rfl rfl (Nat.le_of_ble_eq_true rfl) d_AL_add_1_7 ?_
  have hG_AL1 := zu_s (G := G) (a := h) (v := zob 2 [.int (mc + 1), .ref a, .int (nI cap)])
  have hv1 : zel d (zu G h (zob 2 [.int (mc + 1), .ref a, .int (nI cap)])) v := hv.up (fun e => by
    subst e
    exact ⟨_, _, hG_AL, _, rfl⟩)
  have hG_a1 : zu G h (zob 2 [.int (mc + 1), .ref a, .int (nI cap)]) a = some (zO d cap f) := (zu_n (zOO hG_AL hG_a).symm).trans hG_a
  have hA1 : zAL d h a cap cap (mc + 1) f (zu G h (zob 2 [.int (mc + 1), .ref a, .int (nI cap)])) := ⟨hG_AL1, hG_a1, hncp, hcp⟩
  have hel1 : ∀ i z, i < cap → f i = some z → zel d (zu G h (zob 2 [.int (mc + 1), .ref a, .int (nI cap)])) z := fun i z hi hz => (hel i z hi hz).up (fun e => by
    subst e
    exact ⟨_, _, hG_AL, _, rfl⟩)
  have hG_AL := hG_AL1
  refine z_aload_n 0 d_AL_add_1_10 rfl rfl ?_
  refine z_aload_n 1 d_AL_add_1_11 rfl rfl ?_
  refine z_aload_n 0 d_AL_add_1_12 rfl rfl ?_
  refine z_get zc_AL 1 (by decide) qF_AL_9 hG_AL rfl d_AL_add_1_13 ?_
  refine z_aload_n 0 d_AL_add_1_16 rfl rfl ?_
  refine z_get zc_AL 2 (by decide) qF_AL_48 hG_AL rfl d_AL_add_1_17 ?_
  refine z_callVp1 ((m_AL_add_2c hs0 hst hA1 hc1 hcap hel1 hv1)) ym_AL_add_2 qM_AL_131 qI_AL_add_2 qV_AL_AL_add_2 zc_AL hG_AL d_AL_add_1_20 rfl (Nat.le_of_ble_eq_true rfl) ⟨by decide, by decide⟩ ⟨Nat.le_of_ble_eq_true rfl, Nat.le_of_ble_eq_true rfl⟩ (fun r_20 G_20 hp_20 => ?_)
  obtain ⟨rfl, b, hn, hb, nhb, rfl⟩ := hp_20
  refine z_iconst (v := 1) d_AL_add_1_23 (by decide) ?_
  exact z_zret rfl (by first | rfl | exact zb_nar _) (⟨rfl, b, by rw [zu_n nhb.symm] at hn; exact hn, hb, nhb, by rw [zu_comm nhb, zu_zu]⟩) (by first | decide | omega) (by first | decide | omega) d_AL_add_1_24
