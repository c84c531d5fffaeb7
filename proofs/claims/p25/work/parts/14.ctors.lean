
section ZSAME
variable {g0 : State} {d : zD} {y : MethodName} {cc : ByteArray} {nL : Nat} {ret : Option FieldType} {tb : List ExceptionTableEntry} {p : Program} {l : Launch} {e : Env} {R : Room} {s : State} {m : MethodId} {args : Array Value} {below : List Frame} {meth : Method} {c : Code} {Q : State → Prop} {cells slots : Nat} {G : zG} {L : List (Nat × Value)} {st : List Value} {pc : Nat}
theorem zCx.same (h : zCx g0 d y cc nL ret tb p l s m meth c) {ref owner name desc : String} (hw : Cond.sameField ref owner name desc ∈ lw_tbl) (x : ClassId × Class × Nat × Field) (ho : s.fieldFound? owner name desc = some x) : s.fieldFound? ref name desc = some x := u_same (h.w hw rfl #[]) x ho
/-- a field that a superclass declares, named by the class -/
theorem z_getS {ci : Nat} {C ref : String} {T : u_T} {N : Nat} {ty : Nat → FieldType} (hz : zCl ci C T N ty) {a idx : Nat} {fs : List Value} {v : Value} (k : Nat) (hk : k < N) (hq : Cond.fieldLink y.cls idx ref (T k).2.1 (T k).2.2.1 ∈ lw_tbl) (hsm : Cond.sameField ref (T k).1 (T k).2.1 (T k).2.2.1 ∈ lw_tbl) (hG : G a = some (zob ci fs)) (hv : fs[k]? = some v) (hd : decode cc pc = .ok (.getfield idx, 3)) (kk : Z g0 d y cc nL ret tb p l e R s m args below meth c Q cells slots G L (v :: st) (pc + 3)) : Z g0 d y cc nL ret tb p l e R s m args below meth c Q cells slots G L (.ref a :: st) pc := by
  intro hc H locs ls hP hS hl
  obtain ⟨j, hj⟩ := hP.in hG
  exact va_get hc.x hc.b (hc.lays hz args) (fun _ h => h) hc.own hc.K hP.P j hj hz.1 k hk (hc.w hq rfl args) (hc.same hsm) hv hd (kk hc H locs ls hP hS hl)
theorem z_putS {ci : Nat} {C ref : String} {T : u_T} {N : Nat} {ty : Nat → FieldType} (hz : zCl ci C T N ty) {a idx : Nat} {fs : List Value} {v : Value} (k : Nat) (hk : k < N) (hq : Cond.fieldLink y.cls idx ref (T k).2.1 (T k).2.2.1 ∈ lw_tbl) (hsm : Cond.sameField ref (T k).1 (T k).2.1 (T k).2.2.1 ∈ lw_tbl) (hG : G a = some (zob ci fs)) (hfin : (T k).2.2.2 = false) (hn : narrow (ty k) v = v) (hfit : fits (ty k) v = true) (hlen : k < fs.length) (hd : decode cc pc = .ok (.putfield idx, 3)) (kk : Z g0 d y cc nL ret tb p l e R s m args below meth c Q cells slots (zu G a (zob ci (fs.set k v))) L st (pc + 3)) : Z g0 d y cc nL ret tb p l e R s m args below meth c Q cells slots G L (v :: .ref a :: st) pc := by
  intro hc H locs ls hP hS hl
  obtain ⟨j, hj⟩ := hP.in hG
  exact va_put hc.x hc.b (hc.lays hz args) (fun _ h => h) ty hz.2.2.1 hz.2.2.2 hc.own hc.K hP.P hP.D hS j hj hz.1 k hk (hc.w hq rfl args) (hc.same hsm) hfin (hz.2.2.1 k hk) hn hfit hlen hd (fun H1 locs1 hP1 hD1 hS1 => kk hc H1 locs1 ls (hP.set hj hP1) hS1 hl)
end ZSAME
theorem zu_nn {G : zG} {a b : Nat} {v w : va_E} (h1 : G a = some v) (h2 : zu G b w a = none) : False := by
  by_cases e : a = b
  · subst e; rw [zu_s] at h2; cases h2
  · rw [zu_n e, h1] at h2; cases h2
/-- filled with -1 so far -/
def zfl (n : Nat) : Nat → Int32 := fun k => if k < n then -1 else 0
theorem zfl_u {n : Nat} : upd (zfl n) n (-1) = zfl (n + 1) := by
  funext k
  unfold zfl
  by_cases h : k = n
  · subst h
    rw [pk_us, if_pos (by omega)]
  · rw [pk_un h]
    by_cases h2 : k < n
    · rw [if_pos h2, if_pos (by omega)]
    · rw [if_neg h2, if_neg (by omega)]
theorem zfl_0 : (fun _ => 0) = zfl 0 := by
  funext k
  exact (if_neg (by omega)).symm
theorem ne_of_none {G : zG} {a b : Nat} {v : va_E} (h1 : G a = some v) (h2 : G b = none) : a ≠ b := fun e => by rw [e, h2] at h1; cases h1

theorem d_AbC_init_0 : decode c_AbC_init 0 = .ok (.aload_n 0, 1) := by decide +kernel
theorem d_AbC_init_1 : decode c_AbC_init 1 = .ok (.invokespecial 1, 3) := by decide +kernel
theorem d_AbC_init_4 : decode c_AbC_init 4 = .ok (.return_, 1) := by decide +kernel
set_option maxHeartbeats 4000000 in
set_option maxRecDepth 100000 in
theorem m_AbC_init {g0 : State} {d : zD} {l : Launch} {a0 : Array Value} (hs0 : zS0 d a0 g0) (hst : l.stackTraces = false) {G : zG} {h : Nat} : zMet g0 d l y_AbC_init c_AbC_init 1 ((Option.none : Option Jvm.ClassFile.FieldType)) 1 0 0 [.ref h] (G) (zEq none G) (zNo) := by
  refine z_entry hs0 hst (by decide) (Nat.le_of_ble_eq_true rfl) (fun p e s m args below meth c => ?_)
  refine z_aload_n 0 d_AbC_init_0 rfl rfl ?_
  refine z_objInit qM_AbC_1 qI_Oj_init_0566 qC_Oj_init_0566 d_AbC_init_1 (by decide) ⟨by decide, by decide⟩ ?_
  exact z_vret rfl (⟨rfl, rfl⟩) (by first | decide | omega) (by first | decide | omega) d_AbC_init_4
theorem d_AbL_init_0 : decode c_AbL_init 0 = .ok (.aload_n 0, 1) := by decide +kernel
theorem d_AbL_init_1 : decode c_AbL_init 1 = .ok (.invokespecial 1, 3) := by decide +kernel
theorem d_AbL_init_4 : decode c_AbL_init 4 = .ok (.aload_n 0, 1) := by decide +kernel
theorem d_AbL_init_5 : decode c_AbL_init 5 = .ok (.iconst 0, 1) := by decide +kernel
theorem d_AbL_init_6 : decode c_AbL_init 6 = .ok (.putfield 7, 3) := by decide +kernel
theorem d_AbL_init_9 : decode c_AbL_init 9 = .ok (.return_, 1) := by decide +kernel
set_option maxHeartbeats 4000000 in
set_option maxRecDepth 100000 in
theorem m_AbL_init {g0 : State} {d : zD} {l : Launch} {a0 : Array Value} (hs0 : zS0 d a0 g0) (hst : l.stackTraces = false) {G : zG} {h : Nat} {w1 w2 w3 : Value} (hG_AL : G h = some (zob 2 [w1, w2, w3])) : zMet g0 d l y_AbL_init c_AbL_init 1 ((Option.none : Option Jvm.ClassFile.FieldType)) 2 0 0 [.ref h] (G) (zEq none (zu G h (zob 2 [.int 0, w2, w3]))) (zNo) := by
  refine z_entry hs0 hst (by decide) (Nat.le_of_ble_eq_true rfl) (fun p e s m args below meth c => ?_)
  refine z_aload_n 0 d_AbL_init_0 rfl rfl ?_
  refine z_callI0 (m_AbC_init hs0 hst) ym_AbC_init rfl qM_AbL_1 qI_AbC_init d_AbL_init_1 rfl (Nat.le_of_ble_eq_true rfl) ⟨Nat.zero_le _, Nat.zero_le _⟩ ⟨Nat.le_of_ble_eq_true rfl, Nat.le_of_ble_eq_true rfl⟩ ?_
  refine z_aload_n 0 d_AbL_init_4 rfl rfl ?_
  refine z_iconst (v := 0) d_AbL_init_5 (by decide) ?_
  refine z_put zc_AL 0 (by decide) qF_AbL_7 hG_AL rfl rfl rfl (Nat.le_of_ble_eq_true rfl) d_AbL_init_6 ?_
  exact z_vret rfl (⟨rfl, rfl⟩) (by first | decide | omega) (by first | decide | omega) d_AbL_init_9
theorem d_AL_init_0 : decode c_AL_init 0 = .ok (.aload_n 0, 1) := by decide +kernel
theorem d_AL_init_1 : decode c_AL_init 1 = .ok (.invokespecial 1, 3) := by decide +kernel
theorem d_AL_init_4 : decode c_AL_init 4 = .ok (.aload_n 0, 1) := by decide +kernel
theorem d_AL_init_5 : decode c_AL_init 5 = .ok (.getstatic 39, 3) := by decide +kernel
theorem d_AL_init_8 : decode c_AL_init 8 = .ok (.putfield 9, 3) := by decide +kernel
theorem d_AL_init_11 : decode c_AL_init 11 = .ok (.return_, 1) := by decide +kernel
set_option maxHeartbeats 4000000 in
set_option maxRecDepth 100000 in
theorem m_AL_init {g0 : State} {d : zD} {l : Launch} {a0 : Array Value} (hs0 : zS0 d a0 g0) (hst : l.stackTraces = false) {G : zG} {h : Nat} {w1 w2 w3 : Value} (hG_A0 : G h = some (zob 2 [w1, w2, w3])) : zMet g0 d l y_AL_init c_AL_init 1 ((Option.none : Option Jvm.ClassFile.FieldType)) 3 0 0 [.ref h] (G) (zEq none (zu G h (zob 2 [.int 0, .ref d.2.2, w3]))) (zNo) := by
  refine z_entry hs0 hst (by decide) (Nat.le_of_ble_eq_true rfl) (fun p e s m args below meth c => ?_)
  refine z_aload_n 0 d_AL_init_0 rfl rfl ?_
  refine z_callI0 (m_AbL_init hs0 hst hG_A0) ym_AbL_init rfl qM_AL_1 qI_AbL_init d_AL_init_1 rfl (Nat.le_of_ble_eq_true rfl) ⟨Nat.zero_le _, Nat.zero_le _⟩ ⟨Nat.le_of_ble_eq_true rfl, Nat.le_of_ble_eq_true rfl⟩ ?_
  refine z_aload_n 0 d_AL_init_4 rfl rfl ?_
  refine z_gets0 qF_AL_39 d_AL_init_5 ?_
  have hG_AL := zu_s (G := G) (a := h) (v := zob 2 [.int 0, w2, w3])
  refine z_put zc_AL 1 (by decide) qF_AL_9 hG_AL rfl rfl rfl (Nat.le_of_ble_eq_true rfl) d_AL_init_8 ?_
  rw [zu_zu]
  exact z_vret rfl (⟨rfl, rfl⟩) (by first | decide | omega) (by first | decide | omega) d_AL_init_11
theorem d_Ke_init_0 : decode c_Ke_init 0 = .ok (.aload_n 0, 1) := by decide +kernel
theorem d_Ke_init_1 : decode c_Ke_init 1 = .ok (.invokespecial 1, 3) := by decide +kernel
theorem d_Ke_init_4 : decode c_Ke_init 4 = .ok (.aload_n 0, 1) := by decide +kernel
theorem d_Ke_init_5 : decode c_Ke_init 5 = .ok (.iload_n 1, 1) := by decide +kernel
theorem d_Ke_init_6 : decode c_Ke_init 6 = .ok (.putfield 7, 3) := by decide +kernel
theorem d_Ke_init_9 : decode c_Ke_init 9 = .ok (.aload_n 0, 1) := by decide +kernel
theorem d_Ke_init_10 : decode c_Ke_init 10 = .ok (.iload_n 2, 1) := by decide +kernel
theorem d_Ke_init_11 : decode c_Ke_init 11 = .ok (.putfield 13, 3) := by decide +kernel
theorem d_Ke_init_14 : decode c_Ke_init 14 = .ok (.aload_n 0, 1) := by decide +kernel
theorem d_Ke_init_15 : decode c_Ke_init 15 = .ok (.iload_n 3, 1) := by decide +kernel
theorem d_Ke_init_16 : decode c_Ke_init 16 = .ok (.putfield 16, 3) := by decide +kernel
theorem d_Ke_init_19 : decode c_Ke_init 19 = .ok (.aload_n 0, 1) := by decide +kernel
theorem d_Ke_init_20 : decode c_Ke_init 20 = .ok (.iload 4, 2) := by decide +kernel
theorem d_Ke_init_22 : decode c_Ke_init 22 = .ok (.putfield 19, 3) := by decide +kernel
theorem d_Ke_init_25 : decode c_Ke_init 25 = .ok (.aload_n 0, 1) := by decide +kernel
theorem d_Ke_init_26 : decode c_Ke_init 26 = .ok (.iconst 0, 1) := by decide +kernel
theorem d_Ke_init_27 : decode c_Ke_init 27 = .ok (.putfield 22, 3) := by decide +kernel
theorem d_Ke_init_30 : decode c_Ke_init 30 = .ok (.aload_n 0, 1) := by decide +kernel
theorem d_Ke_init_31 : decode c_Ke_init 31 = .ok (.iconst 0, 1) := by decide +kernel
theorem d_Ke_init_32 : decode c_Ke_init 32 = .ok (.putfield 25, 3) := by decide +kernel
theorem d_Ke_init_35 : decode c_Ke_init 35 = .ok (.return_, 1) := by decide +kernel
set_option maxHeartbeats 4000000 in
set_option maxRecDepth 100000 in
theorem m_Ke_init {g0 : State} {d : zD} {l : Launch} {a0 : Array Value} (hs0 : zS0 d a0 g0) (hst : l.stackTraces = false) {G : zG} {h : Nat} (nb zo pr ri : Int32) (hG_Ke : G h = some (zob 5 [.int 0, .int 0, .int 0, .int 0, .int 0, .int 0])) : zMet g0 d l y_Ke_init c_Ke_init 5 ((Option.none : Option Jvm.ClassFile.FieldType)) 1 0 0 [.ref h, .int nb, .int zo, .int pr, .int ri] (G) (zEq none (zu G h (zob 5 [.int nb, .int zo, .int pr, .int ri, .int 0, .int 0]))) (zNo) := by
  refine z_entry hs0 hst (by decide) (Nat.le_of_ble_eq_true rfl) (fun p e s m args below meth c => ?_)
  refine z_aload_n 0 d_Ke_init_0 rfl rfl ?_
  refine z_objInit qM_Ke_1 qI_Oj_init_0566 qC_Oj_init_0566 d_Ke_init_1 (by decide) ⟨by decide, by decide⟩ ?_
  refine z_aload_n 0 d_Ke_init_4 rfl rfl ?_
  refine z_iload_n 1 d_Ke_init_5 rfl rfl ?_
  skip
  refine z_putF zc_Ke 0 (by decide) qF_Ke_7 hG_Ke rfl rfl rfl rfl rfl (Nat.le_of_ble_eq_true rfl) d_Ke_init_6 ?_
  refine z_aload_n 0 d_Ke_init_9 rfl rfl ?_
  refine z_iload_n 2 d_Ke_init_10 rfl rfl ?_
  have hG_Ke := zu_s (G := G) (a := h) (v := zob 5 [.int nb, .int 0, .int 0, .int 0, .int 0, .int 0])
  refine z_putF zc_Ke 1 (by decide) qF_Ke_13 hG_Ke rfl rfl rfl rfl rfl (Nat.le_of_ble_eq_true rfl) d_Ke_init_11 ?_
  refine z_aload_n 0 d_Ke_init_14 rfl rfl ?_
  refine z_iload_n 3 d_Ke_init_15 rfl rfl ?_
  rw [zu_zu]
  have hG_Ke := zu_s (G := G) (a := h) (v := zob 5 [.int nb, .int zo, .int 0, .int 0, .int 0, .int 0])
  refine z_putF zc_Ke 2 (by decide) qF_Ke_16 hG_Ke rfl rfl rfl rfl rfl (Nat.le_of_ble_eq_true rfl) d_Ke_init_16 ?_
  refine z_aload_n 0 d_Ke_init_19 rfl rfl ?_
  refine z_iload 4 d_Ke_init_20 rfl ?_
  rw [zu_zu]
  have hG_Ke := zu_s (G := G) (a := h) (v := zob 5 [.int nb, .int zo, .int pr, .int 0, .int 0, .int 0])
  refine z_putF zc_Ke 3 (by decide) qF_Ke_19 hG_Ke rfl rfl rfl rfl rfl (Nat.le_of_ble_eq_true rfl) d_Ke_init_22 ?_
  refine z_aload_n 0 d_Ke_init_25 rfl rfl ?_
  refine z_iconst (v := 0) d_Ke_init_26 (by decide) ?_
  rw [zu_zu]
  have hG_Ke := zu_s (G := G) (a := h) (v := zob 5 [.int nb, .int zo, .int pr, .int ri, .int 0, .int 0])
  refine z_put zc_Ke 4 (by decide) qF_Ke_22 hG_Ke rfl rfl rfl (Nat.le_of_ble_eq_true rfl) d_Ke_init_27 ?_
  refine z_aload_n 0 d_Ke_init_30 rfl rfl ?_
  refine z_iconst (v := 0) d_Ke_init_31 (by decide) ?_
  rw [zu_zu]
  have hG_Ke := zu_s (G := G) (a := h) (v := zob 5 [.int nb, .int zo, .int pr, .int ri, .int 0, .int 0])
  refine z_put zc_Ke 5 (by decide) qF_Ke_25 hG_Ke rfl rfl rfl (Nat.le_of_ble_eq_true rfl) d_Ke_init_32 ?_
  rw [zu_zu]
  exact z_vret rfl (⟨rfl, rfl⟩) (by first | decide | omega) (by first | decide | omega) d_Ke_init_35
theorem d_Se_init_0 : decode c_Se_init 0 = .ok (.aload_n 0, 1) := by decide +kernel
theorem d_Se_init_1 : decode c_Se_init 1 = .ok (.invokespecial 3, 3) := by decide +kernel
theorem d_Se_init_4 : decode c_Se_init 4 = .ok (.aload_n 0, 1) := by decide +kernel
theorem d_Se_init_5 : decode c_Se_init 5 = .ok (.iload_n 1, 1) := by decide +kernel
theorem d_Se_init_6 : decode c_Se_init 6 = .ok (.putfield 9, 3) := by decide +kernel
theorem d_Se_init_9 : decode c_Se_init 9 = .ok (.aload_n 0, 1) := by decide +kernel
theorem d_Se_init_10 : decode c_Se_init 10 = .ok (.iload_n 2, 1) := by decide +kernel
theorem d_Se_init_11 : decode c_Se_init 11 = .ok (.putfield 15, 3) := by decide +kernel
theorem d_Se_init_14 : decode c_Se_init 14 = .ok (.aload_n 0, 1) := by decide +kernel
theorem d_Se_init_15 : decode c_Se_init 15 = .ok (.iload_n 3, 1) := by decide +kernel
theorem d_Se_init_16 : decode c_Se_init 16 = .ok (.putfield 18, 3) := by decide +kernel
theorem d_Se_init_19 : decode c_Se_init 19 = .ok (.aload_n 0, 1) := by decide +kernel
theorem d_Se_init_20 : decode c_Se_init 20 = .ok (.bipush 8, 2) := by decide +kernel
theorem d_Se_init_22 : decode c_Se_init 22 = .ok (.newarray .int, 2) := by decide +kernel
theorem d_Se_init_24 : decode c_Se_init 24 = .ok (.putfield 21, 3) := by decide +kernel
theorem d_Se_init_27 : decode c_Se_init 27 = .ok (.aload_n 0, 1) := by decide +kernel
theorem d_Se_init_28 : decode c_Se_init 28 = .ok (.bipush 8, 2) := by decide +kernel
theorem d_Se_init_30 : decode c_Se_init 30 = .ok (.newarray .int, 2) := by decide +kernel
theorem d_Se_init_32 : decode c_Se_init 32 = .ok (.putfield 25, 3) := by decide +kernel
theorem d_Se_init_35 : decode c_Se_init 35 = .ok (.iconst 0, 1) := by decide +kernel
theorem d_Se_init_36 : decode c_Se_init 36 = .ok (.istore 4, 2) := by decide +kernel
theorem d_Se_init_38 : decode c_Se_init 38 = .ok (.iload 4, 2) := by decide +kernel
theorem d_Se_init_40 : decode c_Se_init 40 = .ok (.bipush 8, 2) := by decide +kernel
theorem d_Se_init_42 : decode c_Se_init 42 = .ok (.if_icmp .ge 25, 3) := by decide +kernel
theorem d_Se_init_45 : decode c_Se_init 45 = .ok (.aload_n 0, 1) := by decide +kernel
theorem d_Se_init_46 : decode c_Se_init 46 = .ok (.getfield 21, 3) := by decide +kernel
theorem d_Se_init_49 : decode c_Se_init 49 = .ok (.iload 4, 2) := by decide +kernel
theorem d_Se_init_51 : decode c_Se_init 51 = .ok (.iconst (-1), 1) := by decide +kernel
theorem d_Se_init_52 : decode c_Se_init 52 = .ok (.iastore, 1) := by decide +kernel
theorem d_Se_init_53 : decode c_Se_init 53 = .ok (.aload_n 0, 1) := by decide +kernel
theorem d_Se_init_54 : decode c_Se_init 54 = .ok (.getfield 25, 3) := by decide +kernel
theorem d_Se_init_57 : decode c_Se_init 57 = .ok (.iload 4, 2) := by decide +kernel
theorem d_Se_init_59 : decode c_Se_init 59 = .ok (.iconst (-1), 1) := by decide +kernel
theorem d_Se_init_60 : decode c_Se_init 60 = .ok (.iastore, 1) := by decide +kernel
theorem d_Se_init_61 : decode c_Se_init 61 = .ok (.iinc 4 1, 3) := by decide +kernel
theorem d_Se_init_64 : decode c_Se_init 64 = .ok (.goto (-26), 3) := by decide +kernel
theorem d_Se_init_67 : decode c_Se_init 67 = .ok (.aload_n 0, 1) := by decide +kernel
theorem d_Se_init_68 : decode c_Se_init 68 = .ok (.iconst 0, 1) := by decide +kernel
theorem d_Se_init_69 : decode c_Se_init 69 = .ok (.putfield 28, 3) := by decide +kernel
theorem d_Se_init_72 : decode c_Se_init 72 = .ok (.aload_n 0, 1) := by decide +kernel
theorem d_Se_init_73 : decode c_Se_init 73 = .ok (.iconst 0, 1) := by decide +kernel
theorem d_Se_init_74 : decode c_Se_init 74 = .ok (.putfield 31, 3) := by decide +kernel
theorem d_Se_init_77 : decode c_Se_init 77 = .ok (.aload_n 0, 1) := by decide +kernel
theorem d_Se_init_78 : decode c_Se_init 78 = .ok (.iconst 0, 1) := by decide +kernel
theorem d_Se_init_79 : decode c_Se_init 79 = .ok (.putfield 34, 3) := by decide +kernel
theorem d_Se_init_82 : decode c_Se_init 82 = .ok (.return_, 1) := by decide +kernel
set_option maxHeartbeats 4000000 in
set_option maxRecDepth 100000 in
theorem m_Se_init {g0 : State} {d : zD} {l : Launch} {a0 : Array Value} (hs0 : zS0 d a0 g0) (hst : l.stackTraces = false) {G : zG} {h : Nat} (t z dt : Int32) (hG_Se : G h = some (zob 7 [.int 0, .int 0, .int 0, .null, .null, .int 0, .int 0, .int 0])) : zMet g0 d l y_Se_init c_Se_init 5 ((Option.none : Option Jvm.ClassFile.FieldType)) 1 2 16 [.ref h, .int t, .int z, .int dt] (G) (fun r G1 => r = none ∧ ∃ hs he, G hs = none ∧ G he = none ∧ g0.heap.size ≤ hs ∧ g0.heap.size ≤ he ∧ h ≠ hs ∧ h ≠ he ∧ hs ≠ he ∧ G1 = zu (zu (zu G h (zob 7 [.int t, .int z, .int dt, .ref hs, .ref he, .int 0, .int 0, .int 0])) hs (zI d 8 (zfl 8))) he (zI d 8 (zfl 8))) (zNo) := by
  refine z_entry hs0 hst (by decide) (Nat.le_of_ble_eq_true rfl) (fun p e s m args below meth c => ?_)
  refine z_aload_n 0 d_Se_init_0 rfl rfl ?_
  refine z_objInit qM_Se_3 qI_Oj_init_0566 qC_Oj_init_0566 d_Se_init_1 (by decide) ⟨by decide, by decide⟩ ?_
  refine z_aload_n 0 d_Se_init_4 rfl rfl ?_
  refine z_iload_n 1 d_Se_init_5 rfl rfl ?_
  refine z_putF zc_Se 0 (by decide) qF_Se_9 hG_Se rfl rfl rfl rfl rfl (Nat.le_of_ble_eq_true rfl) d_Se_init_6 ?_
  refine z_aload_n 0 d_Se_init_9 rfl rfl ?_
  refine z_iload_n 2 d_Se_init_10 rfl rfl ?_
  have hG_Se := zu_s (G := G) (a := h) (v := zob 7 [.int t, .int 0, .int 0, .null, .null, .int 0, .int 0, .int 0])
  refine z_putF zc_Se 1 (by decide) qF_Se_15 hG_Se rfl rfl rfl rfl rfl (Nat.le_of_ble_eq_true rfl) d_Se_init_11 ?_
  refine z_aload_n 0 d_Se_init_14 rfl rfl ?_
  refine z_iload_n 3 d_Se_init_15 rfl rfl ?_
  rw [zu_zu]
  have hG_Se := zu_s (G := G) (a := h) (v := zob 7 [.int t, .int z, .int 0, .null, .null, .int 0, .int 0, .int 0])
  refine z_putF zc_Se 2 (by decide) qF_Se_18 hG_Se rfl rfl rfl rfl rfl (Nat.le_of_ble_eq_true rfl) d_Se_init_16 ?_
  rw [zu_zu]
  refine z_geq (G' := zu G h (zob 7 [.int t, .int z, .int dt, .null, .null, .int 0, .int 0, .int 0])) rfl ?_
  refine z_aload_n 0 d_Se_init_19 rfl rfl ?_
  refine z_bipush (v := 8) d_Se_init_20 (by decide) ?_
  refine z_newaI 8 qA_int (by decide) rfl (by decide) ⟨by decide, by decide⟩ d_Se_init_22 (fun hs hn1 hb1 => ?_)
  have n1 : h ≠ hs := ne_of_none zu_s hn1
  have hn1' : G hs = none := by rw [zu_n n1.symm] at hn1; exact hn1
  have hG_Se : (zu (zu G h (zob 7 [.int t, .int z, .int dt, .null, .null, .int 0, .int 0, .int 0])) hs (zI d 8 (fun _ => 0))) h = some (zob 7 [.int t, .int z, .int dt, .null, .null, .int 0, .int 0, .int 0]) := (zu_n n1).trans zu_s
  refine z_putF zc_Se 3 (by decide) qF_Se_21 hG_Se rfl rfl rfl rfl rfl (Nat.le_of_ble_eq_true rfl) d_Se_init_24 ?_
  refine z_geq (G' := zu (zu G h (zob 7 [.int t, .int z, .int dt, .ref hs, .null, .int 0, .int 0, .int 0])) hs (zI d 8 (fun _ => 0))) (by rw [zu_comm n1.symm, zu_zu] <;> rfl) ?_
  refine z_aload_n 0 d_Se_init_27 rfl rfl ?_
  refine z_bipush (v := 8) d_Se_init_28 (by decide) ?_
  refine z_newaI 8 qA_int (by decide) rfl (by decide) ⟨by decide, by decide⟩ d_Se_init_30 (fun he hn2 hb2 => ?_)
  have n2 : h ≠ he := ne_of_none ((zu_n n1).trans zu_s) hn2
  have n3 : hs ≠ he := ne_of_none zu_s hn2
  have hn2' : G he = none := by rw [zu_n n3.symm, zu_n n2.symm] at hn2; exact hn2
  have hG_Se : (zu (zu (zu G h (zob 7 [.int t, .int z, .int dt, .ref hs, .null, .int 0, .int 0, .int 0])) hs (zI d 8 (fun _ => 0))) he (zI d 8 (fun _ => 0))) h = some (zob 7 [.int t, .int z, .int dt, .ref hs, .null, .int 0, .int 0, .int 0]) := (zu_n n2).trans ((zu_n n1).trans zu_s)
  refine z_putF zc_Se 4 (by decide) qF_Se_25 hG_Se rfl rfl rfl rfl rfl (Nat.le_of_ble_eq_true rfl) d_Se_init_32 ?_
  refine z_geq (G' := zu (zu (zu G h (zob 7 [.int t, .int z, .int dt, .ref hs, .ref he, .int 0, .int 0, .int 0])) hs (zI d 8 (zfl 0))) he (zI d 8 (zfl 0))) (by rw [zu_comm n2.symm, zu_comm n1.symm, zu_zu, zfl_0] <;> rfl) ?_
  refine z_iconst (v := (nI 0)) d_Se_init_35 (by decide) ?_
  refine z_istore (L' := [(4, _), (0, _), (1, _), (2, _), (3, _)]) d_Se_init_36 (by decide) rfl ?_
  have key_38 : ∀ (n : Nat) (i : Nat), 8 - i < n → (i ≤ 8) → Z g0 d y_Se_init c_Se_init 5 ((Option.none : Option Jvm.ClassFile.FieldType)) [] p l e (zR 1 2 16) s m args below meth c (vx_MQ below (zQc g0 d (fun r G1 => r = none ∧ ∃ hs he, G hs = none ∧ G he = none ∧ g0.heap.size ≤ hs ∧ g0.heap.size ≤ he ∧ h ≠ hs ∧ h ≠ he ∧ hs ≠ he ∧ G1 = zu (zu (zu G h (zob 7 [.int t, .int z, .int dt, .ref hs, .ref he, .int 0, .int 0, .int 0])) hs (zI d 8 (zfl 8))) he (zI d 8 (zfl 8)))) (zXc g0 d (zNo)) args s 2 16 (zA g0)) 2 16 (zu (zu (zu G h (zob 7 [.int t, .int z, .int dt, .ref hs, .ref he, .int 0, .int 0, .int 0])) hs (zI d 8 (zfl i))) he (zI d 8 (zfl i))) [(4, .int (nI i)), (0, .ref h), (1, .int t), (2, .int z), (3, .int dt)] [] 38 := by
    intro n
    induction n with
    | zero => intro i h0; exact absurd h0 (Nat.not_lt_zero _)
    | succ n ih_38 =>
      intro i hm_38 hi
      have hG_Se : (zu (zu (zu G h (zob 7 [.int t, .int z, .int dt, .ref hs, .ref he, .int 0, .int 0, .int 0])) hs (zI d 8 (zfl i))) he (zI d 8 (zfl i))) h = some (zob 7 [.int t, .int z, .int dt, .ref hs, .ref he, .int 0, .int 0, .int 0]) := (zu_n n2).trans ((zu_n n1).trans zu_s)
      have hG_s : (zu (zu (zu G h (zob 7 [.int t, .int z, .int dt, .ref hs, .ref he, .int 0, .int 0, .int 0])) hs (zI d 8 (zfl i))) he (zI d 8 (zfl i))) hs = some (zI d 8 (zfl i)) := (zu_n n3).trans zu_s
      refine z_iload 0 d_Se_init_38 rfl ?_
      refine z_bipush (v := 8) d_Se_init_40 (by decide) ?_
      refine z_icmp_ge 67 d_Se_init_42 (by decide) (fun c_42 => ?_) (fun c_42 => ?_)
      · skip
        obtain rfl : i = 8 := by
          have := (nI_leI (a := 8) (b := i) (by decide) (by omega)).mp c_42
          omega
        refine z_aload_n 1 d_Se_init_67 rfl rfl ?_
        refine z_iconst (v := 0) d_Se_init_68 (by decide) ?_
        have hG_Se : (zu (zu (zu G h (zob 7 [.int t, .int z, .int dt, .ref hs, .ref he, .int 0, .int 0, .int 0])) hs (zI d 8 (zfl 8))) he (zI d 8 (zfl 8))) h = some (zob 7 [.int t, .int z, .int dt, .ref hs, .ref he, .int 0, .int 0, .int 0]) := (zu_n n2).trans ((zu_n n1).trans zu_s)
        refine z_put zc_Se 5 (by decide) qF_Se_28 hG_Se rfl rfl rfl (Nat.le_of_ble_eq_true rfl) d_Se_init_69 ?_
        refine z_geq (G' := zu (zu (zu G h (zob 7 [.int t, .int z, .int dt, .ref hs, .ref he, .int 0, .int 0, .int 0])) hs (zI d 8 (zfl 8))) he (zI d 8 (zfl 8))) (by rw [zu_comm n2.symm, zu_comm n1.symm, zu_zu] <;> rfl) ?_
        refine z_aload_n 1 d_Se_init_72 rfl rfl ?_
        refine z_iconst (v := 0) d_Se_init_73 (by decide) ?_
        have hG_Se : (zu (zu (zu G h (zob 7 [.int t, .int z, .int dt, .ref hs, .ref he, .int 0, .int 0, .int 0])) hs (zI d 8 (zfl 8))) he (zI d 8 (zfl 8))) h = some (zob 7 [.int t, .int z, .int dt, .ref hs, .ref he, .int 0, .int 0, .int 0]) := (zu_n n2).trans ((zu_n n1).trans zu_s)
        refine z_put zc_Se 6 (by decide) qF_Se_31 hG_Se rfl rfl rfl (Nat.le_of_ble_eq_true rfl) d_Se_init_74 ?_
        refine z_geq (G' := zu (zu (zu G h (zob 7 [.int t, .int z, .int dt, .ref hs, .ref he, .int 0, .int 0, .int 0])) hs (zI d 8 (zfl 8))) he (zI d 8 (zfl 8))) (by rw [zu_comm n2.symm, zu_comm n1.symm, zu_zu] <;> rfl) ?_
        refine z_aload_n 1 d_Se_init_77 rfl rfl ?_
        refine z_iconst (v := 0) d_Se_init_78 (by decide) ?_
        have hG_Se : (zu (zu (zu G h (zob 7 [.int t, .int z, .int dt, .ref hs, .ref he, .int 0, .int 0, .int 0])) hs (zI d 8 (zfl 8))) he (zI d 8 (zfl 8))) h = some (zob 7 [.int t, .int z, .int dt, .ref hs, .ref he, .int 0, .int 0, .int 0]) := (zu_n n2).trans ((zu_n n1).trans zu_s)
        refine z_put zc_Se 7 (by decide) qF_Se_34 hG_Se rfl rfl rfl (Nat.le_of_ble_eq_true rfl) d_Se_init_79 ?_
        refine z_geq (G' := zu (zu (zu G h (zob 7 [.int t, .int z, .int dt, .ref hs, .ref he, .int 0, .int 0, .int 0])) hs (zI d 8 (zfl 8))) he (zI d 8 (zfl 8))) (by rw [zu_comm n2.symm, zu_comm n1.symm, zu_zu] <;> rfl) ?_
        exact z_vret rfl (⟨rfl, hs, he, hn1', hn2', hb1, hb2, n1, n2, n3, rfl⟩) (by first | decide | omega) (by first | decide | omega) d_Se_init_82
      · skip
        have hi8 : i < 8 := Nat.lt_of_not_le fun q => c_42 (nI_le (a := 8) (b := i) q (by omega))
        refine z_aload_n 1 d_Se_init_45 rfl rfl ?_
        refine z_get zc_Se 3 (by decide) qF_Se_21 hG_Se rfl d_Se_init_46 ?_
        refine z_iload 0 d_Se_init_49 rfl ?_
        refine z_iconst (v := (-1)) d_Se_init_51 (by decide) ?_
        refine z_iastN hG_s (hi8) (by decide) d_Se_init_52 ?_
        refine z_aload_n 1 d_Se_init_53 rfl rfl ?_
        refine z_get zc_Se 4 (by decide) qF_Se_25 ((zu_n n1).trans hG_Se) rfl d_Se_init_54 ?_
        refine z_iload 0 d_Se_init_57 rfl ?_
        refine z_iconst (v := (-1)) d_Se_init_59 (by decide) ?_
        refine z_iastN ((zu_n n3.symm).trans zu_s) (hi8) (by decide) d_Se_init_60 ?_
        refine z_geq (G' := zu (zu (zu G h (zob 7 [.int t, .int z, .int dt, .ref hs, .ref he, .int 0, .int 0, .int 0])) hs (zI d 8 (zfl (i + 1)))) he (zI d 8 (zfl (i + 1)))) (by rw [zu_comm n3.symm, zu_zu, zu_zu, zfl_u]) ?_
        refine z_iinc (v := nI (i + 1)) (L' := [(4, _), (0, _), (1, _), (2, _), (3, _)]) 0 d_Se_init_61 rfl (nI_1 i) (by decide) rfl ?_
        refine z_goto 38 d_Se_init_64 (by decide) ?_
        exact ih_38 (i + 1) (by omega) (by omega)
  exact key_38 9 0 (by omega) (by omega)
