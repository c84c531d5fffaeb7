
section ZTP
variable {d : zD} {A : Nat → Nat} {D : Nat → UInt64} {V : Nat → Nat → Int32} {nk ns : Nat} {G G1 : zG}
abbrev zth0 (A : Nat → Nat) (a b c e : Int32) : va_E := zob 8 [.ref (A 1), .ref (A 3), .ref (A 5), .ref (A 10), .ref (A 12), .ref (A 15), .int a, .int b, .int c, .int e]
theorem zT.put0 (h : zT d A D V nk ns G) (a b c e : Int32) : zT d A D (rset V 0 (z4 a b c e)) nk ns (zu G (A 0) (zth0 A a b c e)) ∧ tFr A nk ns G (zu G (A 0) (zth0 A a b c e)) :=
  ⟨h.put (tl_s 0) (z4 a b c e) rfl rfl (h.2.off (by decide) (by decide) (by decide)), zT.frput (tl_s 0) rfl⟩
theorem tInv.kee {k : Nat} {v : Nat → Int32} (h : tInv V nk ns) (hv : v 0 = V (100 + k) 0) (hk : k < 100) : tInv (rset V (100 + k) v) nk ns := by
  obtain ⟨a, b, c, e, f, g⟩ := h
  refine ⟨a, b, by rw [rset_n (by omega)]; exact c, by rw [rset_n (by omega)]; exact e, fun i hi => by rw [rset_n (by omega)]; exact f i hi, fun q hq => ?_⟩
  by_cases ek : q = k
  · subst ek; rw [rset_s, hv]; exact g q hq
  · rw [rset_n (by omega)]; exact g q hq
theorem tInv.secr {k : Nat} {v : Nat → Int32} (h : tInv V nk ns) (hv : v 0 = V (200 + k) 0) (hk : k < 100) : tInv (rset V (200 + k) v) nk ns := by
  obtain ⟨a, b, c, e, f, g⟩ := h
  refine ⟨a, b, by rw [rset_n (by omega)]; exact c, by rw [rset_n (by omega)]; exact e, fun q hq => ?_, fun i hi => by rw [rset_n (by omega)]; exact g i hi⟩
  by_cases ek : q = k
  · subst ek; rw [rset_s, hv]; exact f q hq
  · rw [rset_n (by omega)]; exact f q hq
theorem tInv.reg {v : Nat → Int32} (h : tInv V nk ns) (hv : ∃ c, c ≤ 64 ∧ v 0 = nI c) : tInv (rset V 5 v) nk ns := by
  obtain ⟨a, b, c, e, f, g⟩ := h
  exact ⟨a, b, by rw [rset_n (by omega)]; exact c, by rw [rset_s]; exact hv, fun q hq => by rw [rset_n (by omega)]; exact f q hq, fun i hi => by rw [rset_n (by omega)]; exact g i hi⟩
abbrev zths (A : Nat → Nat) (V : Nat → Nat → Int32) (i : Nat) (a b c : Int32) : va_E := zob 7 [.int (V (200 + i) 0), .int (V (200 + i) 1), .int (V (200 + i) 2), .ref (A (300 + i)), .ref (A (400 + i)), .int a, .int b, .int c]
def z6 (f : Nat → Int32) (a b c : Int32) : Nat → Int32 | 0 => f 0 | 1 => f 1 | 2 => f 2 | 3 => a | 4 => b | 5 => c | _ => 0
theorem zT.puts (h : zT d A D V nk ns G) {i : Nat} (hi : i < ns) (a b c : Int32) : zT d A D (rset V (200 + i) (z6 (V (200 + i)) a b c)) nk ns (zu G (A (200 + i)) (zths A V i a b c)) ∧ tFr A nk ns G (zu G (A (200 + i)) (zths A V i a b c)) := by
  have hn : ns ≤ 6 := h.2.2.1
  exact ⟨h.put (tlive_i hi) (z6 (V (200 + i)) a b c) rfl (tcell_i (i := i) (d := d) (A := A) (D := D) (nk := nk) (ns := ns) (by omega) (z6 (V (200 + i)) a b c)).symm (h.2.secr rfl (by omega)), zT.frput (tlive_i hi) rfl⟩
end ZTP
/-- an entry is written, or there are 64 -/
def zEn (V V' : Nat → Nat → Int32) (kind subj dy : Int32) : Prop := (V 5 0 = nI 64 ∧ V' = V) ∨ ∃ c, c < 64 ∧ V 5 0 = nI c ∧ V' = rset (rset (rset (rset (rset V 6 (upd (V 6) c kind)) 7 (upd (V 7) c subj)) 8 (upd (V 8) c dy)) 9 (zen (zwr 128 (V 9) (64 + nI c) (zlf (upd (V 6) c kind) (upd (V 7) c subj) (upd (V 8) c dy) (nI c))) (64 + nI c) 6)) 5 (fun _ => nI (c + 1))
theorem m_Re_enterE {g0 : State} {d : zD} {l : Launch} {a0 : Array Value} (hs0 : zS0 d a0 g0) (hst : l.stackTraces = false) {A : Nat → Nat} {D : Nat → UInt64} {V : Nat → Nat → Int32} {nk ns : Nat} {G : zG} (hT : zT d A D V nk ns G) (kind subj dy : Int32) : zMet g0 d l y_Re_enter c_Re_enter 6 none 3 0 0 [.ref (A 5), .int kind, .int subj, .int dy] G (fun r G1 => r = none ∧ ∃ V', zT d A D V' nk ns G1 ∧ zEn V V' kind subj dy ∧ tFr A nk ns G G1) zNo := by
  obtain ⟨c, hc, e, hR⟩ := hT.rN
  by_cases h64 : c = 64
  · subst h64
    exact zMet.imp (m_Re_enter_o hs0 hst hR kind subj dy) (fun r G1 h => by obtain ⟨rfl, rfl⟩ := h; exact ⟨rfl, V, hT, Or.inl ⟨e, rfl⟩, zFr.rf⟩) (fun _ _ h => h)
  · refine zMet.imp (m_Re_enter hs0 hst hR (by omega) kind subj dy) (fun r G1 h => ?_) (fun _ _ h => h)
    obtain ⟨rfl, rfl⟩ := h
    have h1 := hT.put (tl_s 6) (upd (V 6) c kind) rfl rfl (hT.2.off (by decide) (by decide) (by decide))
    have h2 := h1.put (tl_s 7) (upd (V 7) c subj) rfl rfl (h1.2.off (by decide) (by decide) (by decide))
    have h3 := h2.put (tl_s 8) (upd (V 8) c dy) rfl rfl (h2.2.off (by decide) (by decide) (by decide))
    have h4 := fun v => h3.put (tl_s 9) v rfl rfl (h3.2.off (by decide) (by decide) (by decide))
    have h5 := fun v => (h4 v).put (tl_s 5) (fun _ => nI (c + 1)) rfl rfl ((h4 v).2.reg ⟨c + 1, by omega, rfl⟩)
    exact ⟨rfl, _, h5 _, Or.inr ⟨c, by omega, e, rfl⟩, ((((zT.frput (tl_s 6) rfl).tr (zT.frput (tl_s 7) rfl)).tr (zT.frput (tl_s 8) rfl)).tr (zT.frput (tl_s 9) rfl)).tr (zT.frput (tl_s 5) rfl)⟩
/-- .. with one of these thrown, and why -/
def zXo (d : zD) (A : Nat → Nat) (nk ns : Nat) (V : Nat → Nat → Int32) (G : zG) (P : String → Prop) : String → zG → Prop := fun E G1 => P E ∧ ∃ D' V', zT d A D' V' nk ns G1 ∧ zKo V V' ∧ tFr A nk ns G G1
/-- a group laid and searched -/
def zDd (V V' : Nat → Nat → Int32) (nk si : Nat) (set : Int32) : Prop := ∃ V3 q, q < 512 ∧ zGa V V3 si set nk ∧ V3 12 1 = nI q ∧ V' = rset V3 12 (z4 (V3 12 0) (nI q) (zdec (V3 13) (V3 14) (V3 12 0) (nI q) (V3 12 2) (V3 12 3) q).1 (zdec (V3 13) (V3 14) (V3 12 0) (nI q) (V3 12 2) (V3 12 3) q).2)
theorem zDd.k {V V' : Nat → Nat → Int32} {nk si : Nat} {set : Int32} (h : zDd V V' nk si set) : zKo V V' := by
  obtain ⟨V3, q, -, h1, -, rfl⟩ := h
  exact h1.2.2.tr (zKo.off (Or.inl rfl))
def zoo (n : Nat) (x : Int32) : Prop := x < 0 ∨ nI n ≤ x
def zlw (V : Nat → Nat → Int32) (nk si : Nat) (set : Int32) : Bool := zlwf (zbc (zzo set (fun k => V (100 + k) 1) nk)) (V (200 + si) 1) (V 0 0) (V (200 + si) 2) (V (200 + si) 4)
def zOp (V V' : Nat → Nat → Int32) (nk si : Nat) (set x : Int32) (r : Option Value) : Prop := ∃ V4, zDd V V4 nk si set ∧
  ((zlw V4 nk si (V4 12 1 >>> ((1 : Int32) &&& 31)) = false ∧ r = some (.int (-1)) ∧ zEn (rset V4 0 (z4 (V4 0 0) (V4 0 1 + 1) (V4 0 2) (V4 0 3))) V' 5 x (V4 0 0)) ∨
   (zlw V4 nk si (V4 12 1 >>> ((1 : Int32) &&& 31)) = true ∧ zgood_ (V4 12 0) (V4 12 1) (V4 12 3) = false ∧ r = some (.int (-2)) ∧ zEn (rset V4 0 (z4 (V4 0 0) (V4 0 1) (V4 0 2 + 1) (V4 0 3))) V' 6 x (V4 0 0)) ∨
   (zlw V4 nk si (V4 12 1 >>> ((1 : Int32) &&& 31)) = true ∧ zgood_ (V4 12 0) (V4 12 1) (V4 12 3) = true ∧ ∃ V5, zNt V4 V5 ((V4 12 1 &&& (V4 12 3 ^^^ (-1))) >>> ((1 : Int32) &&& 31)) nk ∧ zEn V5 V' 4 x (V5 0 0) ∧ r = some (.int (zth (V' 13) (V' 14) (V' 12 2) 0))))

theorem d_Tb_knock_0 : decode c_Tb_knock 0 = .ok (.aload_n 0, 1) := by decide +kernel
theorem d_Tb_knock_1 : decode c_Tb_knock 1 = .ok (.dup, 1) := by decide +kernel
theorem d_Tb_knock_2 : decode c_Tb_knock 2 = .ok (.getfield 48, 3) := by decide +kernel
theorem d_Tb_knock_5 : decode c_Tb_knock 5 = .ok (.iconst 1, 1) := by decide +kernel
theorem d_Tb_knock_6 : decode c_Tb_knock 6 = .ok (.iadd, 1) := by decide +kernel
theorem d_Tb_knock_7 : decode c_Tb_knock 7 = .ok (.putfield 48, 3) := by decide +kernel
theorem d_Tb_knock_10 : decode c_Tb_knock 10 = .ok (.aload_n 0, 1) := by decide +kernel
theorem d_Tb_knock_11 : decode c_Tb_knock 11 = .ok (.getfield 48, 3) := by decide +kernel
theorem d_Tb_knock_14 : decode c_Tb_knock 14 = .ok (.ireturn, 1) := by decide +kernel
set_option maxHeartbeats 4000000 in
set_option maxRecDepth 100000 in
theorem m_Tb_knockE {g0 : State} {d : zD} {l : Launch} {a0 : Array Value} (hs0 : zS0 d a0 g0) (hst : l.stackTraces = false) {G : zG} {A : Nat → Nat} {D : Nat → UInt64} {V : Nat → Nat → Int32} {nk ns : Nat} (hT : zT d A D V nk ns G) : zMet g0 d l y_Tb_knock c_Tb_knock 1 ((Option.some Jvm.ClassFile.FieldType.int)) 1 0 0 [.ref (A 0)] (G) (fun r G1 => r = some (.int (V 0 1 + 1)) ∧ zT d A D (rset V 0 (z4 (V 0 0) (V 0 1 + 1) (V 0 2) (V 0 3))) nk ns G1 ∧ tFr A nk ns G G1) (zNo) := by
  have hG_Tb := hT.tb
  have hnk : nk ≤ 8 := hT.2.1
  have hns : ns ≤ 6 := hT.2.2.1
  refine z_entry hs0 hst (by decide) (Nat.le_of_ble_eq_true rfl) (fun p e s m args below meth c => ?_)
  refine z_aload_n 0 d_Tb_knock_0 rfl rfl ?_
  refine z_dup d_Tb_knock_1 rfl ?_
  refine z_get zc_Tb 7 (by decide) qF_Tb_48 hG_Tb rfl d_Tb_knock_2 ?_
  refine z_iconst (v := 1) d_Tb_knock_5 (by decide) ?_
  refine z_iadd d_Tb_knock_6 ?_
  refine z_put zc_Tb 7 (by decide) qF_Tb_48 hG_Tb rfl rfl rfl (Nat.le_of_ble_eq_true rfl) d_Tb_knock_7 ?_
  obtain ⟨hT1, hF1⟩ := hT.put0 (V 0 0) (V 0 1 + 1) (V 0 2) (V 0 3)
  have hG_Tb := hT1.tb
  refine z_aload_n 0 d_Tb_knock_10 rfl rfl ?_
  refine z_get zc_Tb 7 (by decide) qF_Tb_48 zu_s rfl d_Tb_knock_11 ?_
  exact z_iret rfl (⟨rfl, hT1, hF1⟩) (by first | decide | omega) (by first | decide | omega) d_Tb_knock_14
theorem d_Tb_pass_0 : decode c_Tb_pass 0 = .ok (.iload_n 1, 1) := by decide +kernel
theorem d_Tb_pass_1 : decode c_Tb_pass 1 = .ok (.iconst 1, 1) := by decide +kernel
theorem d_Tb_pass_2 : decode c_Tb_pass 2 = .ok (.sipush 365, 3) := by decide +kernel
theorem d_Tb_pass_5 : decode c_Tb_pass 5 = .ok (.invokestatic 57, 3) := by decide +kernel
theorem d_Tb_pass_8 : decode c_Tb_pass 8 = .ok (.ifCond .ne 13, 3) := by decide +kernel
theorem d_Tb_pass_11 : decode c_Tb_pass 11 = .ok (.new 61, 3) := by decide +kernel
theorem d_Tb_pass_14 : decode c_Tb_pass 14 = .ok (.dup, 1) := by decide +kernel
theorem d_Tb_pass_15 : decode c_Tb_pass 15 = .ok (.ldc 216, 2) := by decide +kernel
theorem d_Tb_pass_17 : decode c_Tb_pass 17 = .ok (.invokespecial 65, 3) := by decide +kernel
theorem d_Tb_pass_20 : decode c_Tb_pass 20 = .ok (.athrow, 1) := by decide +kernel
theorem d_Tb_pass_21 : decode c_Tb_pass 21 = .ok (.aload_n 0, 1) := by decide +kernel
theorem d_Tb_pass_22 : decode c_Tb_pass 22 = .ok (.getfield 44, 3) := by decide +kernel
theorem d_Tb_pass_25 : decode c_Tb_pass 25 = .ok (.iload_n 1, 1) := by decide +kernel
theorem d_Tb_pass_26 : decode c_Tb_pass 26 = .ok (.iadd, 1) := by decide +kernel
theorem d_Tb_pass_27 : decode c_Tb_pass 27 = .ok (.sipush 999, 3) := by decide +kernel
theorem d_Tb_pass_30 : decode c_Tb_pass 30 = .ok (.if_icmp .le 13, 3) := by decide +kernel
theorem d_Tb_pass_33 : decode c_Tb_pass 33 = .ok (.new 72, 3) := by decide +kernel
theorem d_Tb_pass_36 : decode c_Tb_pass 36 = .ok (.dup, 1) := by decide +kernel
theorem d_Tb_pass_37 : decode c_Tb_pass 37 = .ok (.ldc 218, 2) := by decide +kernel
theorem d_Tb_pass_39 : decode c_Tb_pass 39 = .ok (.invokespecial 76, 3) := by decide +kernel
theorem d_Tb_pass_42 : decode c_Tb_pass 42 = .ok (.athrow, 1) := by decide +kernel
theorem d_Tb_pass_43 : decode c_Tb_pass 43 = .ok (.aload_n 0, 1) := by decide +kernel
theorem d_Tb_pass_44 : decode c_Tb_pass 44 = .ok (.dup, 1) := by decide +kernel
theorem d_Tb_pass_45 : decode c_Tb_pass 45 = .ok (.getfield 44, 3) := by decide +kernel
theorem d_Tb_pass_48 : decode c_Tb_pass 48 = .ok (.iload_n 1, 1) := by decide +kernel
theorem d_Tb_pass_49 : decode c_Tb_pass 49 = .ok (.iadd, 1) := by decide +kernel
theorem d_Tb_pass_50 : decode c_Tb_pass 50 = .ok (.putfield 44, 3) := by decide +kernel
theorem d_Tb_pass_53 : decode c_Tb_pass 53 = .ok (.aload_n 0, 1) := by decide +kernel
theorem d_Tb_pass_54 : decode c_Tb_pass 54 = .ok (.getfield 44, 3) := by decide +kernel
theorem d_Tb_pass_57 : decode c_Tb_pass 57 = .ok (.ireturn, 1) := by decide +kernel
set_option maxHeartbeats 4000000 in
set_option maxRecDepth 100000 in
theorem m_Tb_pass {g0 : State} {d : zD} {l : Launch} {a0 : Array Value} (hs0 : zS0 d a0 g0) (hst : l.stackTraces = false) {G : zG} {A : Nat → Nat} {D : Nat → UInt64} {V : Nat → Nat → Int32} {nk ns : Nat} (hT : zT d A D V nk ns G) (x : Int32) : zMet g0 d l y_Tb_pass c_Tb_pass 2 ((Option.some Jvm.ClassFile.FieldType.int)) 8 1 6 [.ref (A 0), .int x] (G) (fun r G1 => zin x 1 365 = true ∧ ¬ 999 < V 0 0 + x ∧ r = some (.int (V 0 0 + x)) ∧ zT d A D (rset V 0 (z4 (V 0 0 + x) (V 0 1) (V 0 2) (V 0 3))) nk ns G1 ∧ tFr A nk ns G G1) (fun E G1 => G1 = G ∧ ((zin x 1 365 = false ∧ E = "java/lang/IllegalArgumentException") ∨ (zin x 1 365 = true ∧ 999 < V 0 0 + x ∧ E = "java/lang/IllegalStateException"))) := by
  have hG_Tb := hT.tb
  have hnk : nk ≤ 8 := hT.2.1
  have hns : ns ≤ 6 := hT.2.2.1
  refine z_entry hs0 hst (by decide) (Nat.le_of_ble_eq_true rfl) (fun p e s m args below meth c => ?_)
  refine z_iload_n 1 d_Tb_pass_0 rfl rfl ?_
  refine z_iconst (v := 1) d_Tb_pass_1 (by decide) ?_
  refine z_sipush (v := 365) d_Tb_pass_2 (by decide) ?_
  refine z_callS0 (m_Tb_isFrom hs0 hst x 1 _) ym_Tb_isFrom qM_Tb_57 qS_Tb_isFrom d_Tb_pass_5 rfl (Nat.le_of_ble_eq_true rfl) ⟨by decide, by decide⟩ ⟨Nat.le_of_ble_eq_true rfl, Nat.le_of_ble_eq_true rfl⟩ ?_
  refine z_if_ne 21 d_Tb_pass_8 (by decide) (fun c_8 => ?_) (fun c_8 => ?_)
  · skip
    refine z_aload_n 0 d_Tb_pass_21 rfl rfl ?_
    refine z_get zc_Tb 6 (by decide) qF_Tb_44 hG_Tb rfl d_Tb_pass_22 ?_
    refine z_iload_n 1 d_Tb_pass_25 rfl rfl ?_
    refine z_iadd d_Tb_pass_26 ?_
    refine z_sipush (v := 999) d_Tb_pass_27 (by decide) ?_
    refine z_icmp_le 43 d_Tb_pass_30 (by decide) (fun c_30 => ?_) (fun c_30 => ?_)
    · skip
      refine z_aload_n 0 d_Tb_pass_43 rfl rfl ?_
      refine z_dup d_Tb_pass_44 rfl ?_
      refine z_get zc_Tb 6 (by decide) qF_Tb_44 hG_Tb rfl d_Tb_pass_45 ?_
      refine z_iload_n 1 d_Tb_pass_48 rfl rfl ?_
      refine z_iadd d_Tb_pass_49 ?_
      refine z_put zc_Tb 6 (by decide) qF_Tb_44 hG_Tb rfl rfl rfl (Nat.le_of_ble_eq_true rfl) d_Tb_pass_50 ?_
      refine z_aload_n 0 d_Tb_pass_53 rfl rfl ?_
      refine z_get zc_Tb 6 (by decide) qF_Tb_44 zu_s rfl d_Tb_pass_54 ?_
      exact z_iret rfl (⟨(zb_n0 _).mp c_8, Int32.not_lt.mpr c_30, rfl, (hT.put0 _ _ _ _).1, (hT.put0 _ _ _ _).2⟩) (by first | decide | omega) (by first | decide | omega) d_Tb_pass_57
    · skip
      exact z_thS (names := ["java/lang/RuntimeException", "java/lang/Exception"]) (by decide) (by decide) qK_Tb_72 qN_ISE qR_Tb_218 th_76.1 th_76.2 d_Tb_pass_33 d_Tb_pass_36 d_Tb_pass_37 d_Tb_pass_39 d_Tb_pass_42 (by decide) (Nat.le_of_ble_eq_true rfl) ⟨by decide, by decide⟩ (⟨rfl, Or.inr ⟨(zb_n0 _).mp c_8, Int32.not_le.mp c_30, rfl⟩⟩) (by decide) (by decide)
  · skip
    exact z_thS (names := ["java/lang/RuntimeException", "java/lang/Exception"]) (by decide) (by decide) qK_Tb_61 qN_IAE qR_Tb_216 th_65.1 th_65.2 d_Tb_pass_11 d_Tb_pass_14 d_Tb_pass_15 d_Tb_pass_17 d_Tb_pass_20 (by decide) (Nat.le_of_ble_eq_true rfl) ⟨by decide, by decide⟩ (⟨rfl, Or.inl ⟨(zb_0 _).mp c_8, rfl⟩⟩) (by decide) (by decide)
theorem d_Tb_lie_0 : decode c_Tb_lie 0 = .ok (.aload_n 0, 1) := by decide +kernel
theorem d_Tb_lie_1 : decode c_Tb_lie 1 = .ok (.iload_n 1, 1) := by decide +kernel
theorem d_Tb_lie_2 : decode c_Tb_lie 2 = .ok (.invokevirtual 86, 3) := by decide +kernel
theorem d_Tb_lie_5 : decode c_Tb_lie 5 = .ok (.astore_n 3, 1) := by decide +kernel
theorem d_Tb_lie_6 : decode c_Tb_lie 6 = .ok (.iload_n 2, 1) := by decide +kernel
theorem d_Tb_lie_7 : decode c_Tb_lie 7 = .ok (.invokestatic 90, 3) := by decide +kernel
theorem d_Tb_lie_10 : decode c_Tb_lie 10 = .ok (.ifCond .ne 13, 3) := by decide +kernel
theorem d_Tb_lie_13 : decode c_Tb_lie 13 = .ok (.new 61, 3) := by decide +kernel
theorem d_Tb_lie_16 : decode c_Tb_lie 16 = .ok (.dup, 1) := by decide +kernel
theorem d_Tb_lie_17 : decode c_Tb_lie 17 = .ok (.ldc 94, 2) := by decide +kernel
theorem d_Tb_lie_19 : decode c_Tb_lie 19 = .ok (.invokespecial 65, 3) := by decide +kernel
theorem d_Tb_lie_22 : decode c_Tb_lie 22 = .ok (.athrow, 1) := by decide +kernel
theorem d_Tb_lie_23 : decode c_Tb_lie 23 = .ok (.aload_n 3, 1) := by decide +kernel
theorem d_Tb_lie_24 : decode c_Tb_lie 24 = .ok (.getfield 96, 3) := by decide +kernel
theorem d_Tb_lie_27 : decode c_Tb_lie 27 = .ok (.istore 4, 2) := by decide +kernel
theorem d_Tb_lie_29 : decode c_Tb_lie 29 = .ok (.aload_n 3, 1) := by decide +kernel
theorem d_Tb_lie_30 : decode c_Tb_lie 30 = .ok (.iload_n 2, 1) := by decide +kernel
theorem d_Tb_lie_31 : decode c_Tb_lie 31 = .ok (.putfield 96, 3) := by decide +kernel
theorem d_Tb_lie_34 : decode c_Tb_lie 34 = .ok (.iload 4, 2) := by decide +kernel
theorem d_Tb_lie_36 : decode c_Tb_lie 36 = .ok (.ireturn, 1) := by decide +kernel
set_option maxHeartbeats 4000000 in
set_option maxRecDepth 100000 in
theorem m_Tb_lie {g0 : State} {d : zD} {l : Launch} {a0 : Array Value} (hs0 : zS0 d a0 g0) (hst : l.stackTraces = false) {G : zG} {A : Nat → Nat} {D : Nat → UInt64} {V : Nat → Nat → Int32} {nk ns : Nat} (hT : zT d A D V nk ns G) (x w : Int32) : zMet g0 d l y_Tb_lie c_Tb_lie 5 ((Option.some Jvm.ClassFile.FieldType.int)) 12 2 12 [.ref (A 0), .int x, .int w] (G) (fun r G1 => ∃ k, k < nk ∧ x = nI k ∧ zin w 0 96 = true ∧ r = some (.int (V (100 + k) 4)) ∧ zT d A D (rset V (100 + k) (upd (V (100 + k)) 4 w)) nk ns G1 ∧ tFr A nk ns G G1) (fun E G1 => G1 = G ∧ (((x < 0 ∨ nI nk ≤ x) ∧ E = "java/lang/IndexOutOfBoundsException") ∨ (zin w 0 96 = false ∧ (∃ k, k < nk ∧ x = nI k) ∧ E = "java/lang/IllegalArgumentException"))) := by
  have hG_Tb := hT.tb
  have hnk : nk ≤ 8 := hT.2.1
  have hns : ns ≤ 6 := hT.2.2.1
  refine z_entry hs0 hst (by decide) (Nat.le_of_ble_eq_true rfl) (fun p e s m args below meth c => ?_)
  refine z_aload_n 0 d_Tb_lie_0 rfl rfl ?_
  refine z_iload_n 1 d_Tb_lie_1 rfl rfl ?_
  refine z_callV (m_Tb_keeperAt hs0 hst hT x) ym_Tb_keeperAt qM_Tb_86 qI_Tb_keeperAt qV_Tb_Tb_keeperAt zc_Tb hG_Tb d_Tb_lie_2 rfl (Nat.le_of_ble_eq_true rfl) ⟨by decide, by decide⟩ ⟨Nat.le_of_ble_eq_true rfl, Nat.le_of_ble_eq_true rfl⟩ ?_ ?_
  · exact fun E G9 hx => z_out ⟨hx.2.2, Or.inl ⟨hx.1, hx.2.1⟩⟩ (by decide) (by decide)
  intro r_2 G_2 hp_2
  obtain ⟨ki, hki, rfl, rfl, hg_2⟩ := hp_2
  obtain rfl : G = G_2 := hg_2.symm
  refine z_astore_n (L' := [(3, _), (0, _), (1, _), (2, _)]) d_Tb_lie_5 rfl (by decide) rfl ?_
  refine z_iload_n 3 d_Tb_lie_6 rfl rfl ?_
  refine z_callS0 (m_Tb_isNumber hs0 hst w) ym_Tb_isNumber qM_Tb_90 qS_Tb_isNumber d_Tb_lie_7 rfl (Nat.le_of_ble_eq_true rfl) ⟨by decide, by decide⟩ ⟨Nat.le_of_ble_eq_true rfl, Nat.le_of_ble_eq_true rfl⟩ ?_
  refine z_if_ne 23 d_Tb_lie_10 (by decide) (fun c_10 => ?_) (fun c_10 => ?_)
  · skip
    refine z_aload_n 0 d_Tb_lie_23 rfl rfl ?_
    refine z_get zc_Ke 4 (by decide) qF_Tb_96 (hT.ke hki) rfl d_Tb_lie_24 ?_
    refine z_istore (L' := [(4, _), (3, _), (0, _), (1, _), (2, _)]) d_Tb_lie_27 (by decide) rfl ?_
    refine z_aload_n 1 d_Tb_lie_29 rfl rfl ?_
    refine z_iload_n 4 d_Tb_lie_30 rfl rfl ?_
    refine z_put zc_Ke 4 (by decide) qF_Tb_96 (hT.ke hki) rfl rfl rfl (Nat.le_of_ble_eq_true rfl) d_Tb_lie_31 ?_
    refine z_iload 0 d_Tb_lie_34 rfl ?_
    exact z_iret rfl (⟨ki, hki, rfl, (zb_n0 _).mp c_10, rfl, hT.put (tlive_k hki) (upd (V (100 + ki)) 4 w) rfl (tcell_k (k := ki) (d := d) (A := A) (D := D) (nk := nk) (ns := ns) (show ki < 8 by omega) (upd (V (100 + ki)) 4 w)).symm (hT.2.kee rfl (by omega)), zT.frput (tlive_k hki) rfl⟩) (by first | decide | omega) (by first | decide | omega) d_Tb_lie_36
  · skip
    exact z_thS (names := ["java/lang/RuntimeException", "java/lang/Exception"]) (by decide) (by decide) qK_Tb_61 qN_IAE qR_Tb_94 th_65.1 th_65.2 d_Tb_lie_13 d_Tb_lie_16 d_Tb_lie_17 d_Tb_lie_19 d_Tb_lie_22 (by decide) (Nat.le_of_ble_eq_true rfl) ⟨by decide, by decide⟩ (⟨rfl, Or.inr ⟨(zb_0 _).mp c_10, ⟨ki, hki, rfl⟩, rfl⟩⟩) (by decide) (by decide)
theorem d_Tb_freeze_0 : decode c_Tb_freeze 0 = .ok (.iload_n 1, 1) := by decide +kernel
theorem d_Tb_freeze_1 : decode c_Tb_freeze 1 = .ok (.iconst 0, 1) := by decide +kernel
theorem d_Tb_freeze_2 : decode c_Tb_freeze 2 = .ok (.iconst 1, 1) := by decide +kernel
theorem d_Tb_freeze_3 : decode c_Tb_freeze 3 = .ok (.invokestatic 57, 3) := by decide +kernel
theorem d_Tb_freeze_6 : decode c_Tb_freeze 6 = .ok (.ifCond .ne 13, 3) := by decide +kernel
theorem d_Tb_freeze_9 : decode c_Tb_freeze 9 = .ok (.new 161, 3) := by decide +kernel
theorem d_Tb_freeze_12 : decode c_Tb_freeze 12 = .ok (.dup, 1) := by decide +kernel
theorem d_Tb_freeze_13 : decode c_Tb_freeze 13 = .ok (.ldc 211, 2) := by decide +kernel
theorem d_Tb_freeze_15 : decode c_Tb_freeze 15 = .ok (.invokespecial 165, 3) := by decide +kernel
theorem d_Tb_freeze_18 : decode c_Tb_freeze 18 = .ok (.athrow, 1) := by decide +kernel
theorem d_Tb_freeze_19 : decode c_Tb_freeze 19 = .ok (.aload_n 0, 1) := by decide +kernel
theorem d_Tb_freeze_20 : decode c_Tb_freeze 20 = .ok (.iload_n 2, 1) := by decide +kernel
theorem d_Tb_freeze_21 : decode c_Tb_freeze 21 = .ok (.invokevirtual 140, 3) := by decide +kernel
theorem d_Tb_freeze_24 : decode c_Tb_freeze 24 = .ok (.astore 4, 2) := by decide +kernel
theorem d_Tb_freeze_26 : decode c_Tb_freeze 26 = .ok (.iconst 1, 1) := by decide +kernel
theorem d_Tb_freeze_27 : decode c_Tb_freeze 27 = .ok (.iload_n 1, 1) := by decide +kernel
theorem d_Tb_freeze_28 : decode c_Tb_freeze 28 = .ok (.ishl, 1) := by decide +kernel
theorem d_Tb_freeze_29 : decode c_Tb_freeze 29 = .ok (.istore 5, 2) := by decide +kernel
theorem d_Tb_freeze_31 : decode c_Tb_freeze 31 = .ok (.aload 4, 2) := by decide +kernel
theorem d_Tb_freeze_33 : decode c_Tb_freeze 33 = .ok (.iload_n 3, 1) := by decide +kernel
theorem d_Tb_freeze_34 : decode c_Tb_freeze 34 = .ok (.ifCond .eq 14, 3) := by decide +kernel
theorem d_Tb_freeze_37 : decode c_Tb_freeze 37 = .ok (.aload 4, 2) := by decide +kernel
theorem d_Tb_freeze_39 : decode c_Tb_freeze 39 = .ok (.getfield 213, 3) := by decide +kernel
theorem d_Tb_freeze_42 : decode c_Tb_freeze 42 = .ok (.iload 5, 2) := by decide +kernel
theorem d_Tb_freeze_44 : decode c_Tb_freeze 44 = .ok (.ior, 1) := by decide +kernel
theorem d_Tb_freeze_45 : decode c_Tb_freeze 45 = .ok (.goto 13, 3) := by decide +kernel
theorem d_Tb_freeze_48 : decode c_Tb_freeze 48 = .ok (.aload 4, 2) := by decide +kernel
theorem d_Tb_freeze_50 : decode c_Tb_freeze 50 = .ok (.getfield 213, 3) := by decide +kernel
theorem d_Tb_freeze_53 : decode c_Tb_freeze 53 = .ok (.iload 5, 2) := by decide +kernel
theorem d_Tb_freeze_55 : decode c_Tb_freeze 55 = .ok (.iconst (-1), 1) := by decide +kernel
theorem d_Tb_freeze_56 : decode c_Tb_freeze 56 = .ok (.ixor, 1) := by decide +kernel
theorem d_Tb_freeze_57 : decode c_Tb_freeze 57 = .ok (.iand, 1) := by decide +kernel
theorem d_Tb_freeze_58 : decode c_Tb_freeze 58 = .ok (.putfield 213, 3) := by decide +kernel
theorem d_Tb_freeze_61 : decode c_Tb_freeze 61 = .ok (.aload 4, 2) := by decide +kernel
theorem d_Tb_freeze_63 : decode c_Tb_freeze 63 = .ok (.getfield 213, 3) := by decide +kernel
theorem d_Tb_freeze_66 : decode c_Tb_freeze 66 = .ok (.invokestatic 105, 3) := by decide +kernel
theorem d_Tb_freeze_69 : decode c_Tb_freeze 69 = .ok (.ireturn, 1) := by decide +kernel
set_option maxHeartbeats 4000000 in
set_option maxRecDepth 100000 in
theorem m_Tb_freeze {g0 : State} {d : zD} {l : Launch} {a0 : Array Value} (hs0 : zS0 d a0 g0) (hst : l.stackTraces = false) {G : zG} {A : Nat → Nat} {D : Nat → UInt64} {V : Nat → Nat → Int32} {nk ns : Nat} (hT : zT d A D V nk ns G) (x w x3 : Int32) : zMet g0 d l y_Tb_freeze c_Tb_freeze 6 ((Option.some Jvm.ClassFile.FieldType.int)) 12 1 6 [.ref (A 0), .int x, .int w, .int x3] (G) (fun r G1 => ∃ k, k < ns ∧ w = nI k ∧ zin x 0 1 = true ∧ r = some (.int (zbc (if x3 = 0 then V (200 + k) 4 &&& ((1 <<< (x &&& 31)) ^^^ (-1)) else V (200 + k) 4 ||| (1 <<< (x &&& 31))))) ∧ zT d A D (rset V (200 + k) (z6 (V (200 + k)) (V (200 + k) 3) (if x3 = 0 then V (200 + k) 4 &&& ((1 <<< (x &&& 31)) ^^^ (-1)) else V (200 + k) 4 ||| (1 <<< (x &&& 31))) (V (200 + k) 5))) nk ns G1 ∧ tFr A nk ns G G1) (fun E G1 => G1 = G ∧ (zin x 0 1 = false ∨ w < 0 ∨ nI ns ≤ w) ∧ E = "java/lang/IndexOutOfBoundsException") := by
  have hG_Tb := hT.tb
  have hnk : nk ≤ 8 := hT.2.1
  have hns : ns ≤ 6 := hT.2.2.1
  refine z_entry hs0 hst (by decide) (Nat.le_of_ble_eq_true rfl) (fun p e s m args below meth c => ?_)
  refine z_iload_n 1 d_Tb_freeze_0 rfl rfl ?_
  refine z_iconst (v := 0) d_Tb_freeze_1 (by decide) ?_
  refine z_iconst (v := 1) d_Tb_freeze_2 (by decide) ?_
  refine z_callS0 (m_Tb_isFrom hs0 hst x 0 _) ym_Tb_isFrom qM_Tb_57 qS_Tb_isFrom d_Tb_freeze_3 rfl (Nat.le_of_ble_eq_true rfl) ⟨by decide, by decide⟩ ⟨Nat.le_of_ble_eq_true rfl, Nat.le_of_ble_eq_true rfl⟩ ?_
  refine z_if_ne 19 d_Tb_freeze_6 (by decide) (fun c_6 => ?_) (fun c_6 => ?_)
  · skip
    refine z_aload_n 0 d_Tb_freeze_19 rfl rfl ?_
    refine z_iload_n 2 d_Tb_freeze_20 rfl rfl ?_
    refine z_callV (m_Tb_secretAt hs0 hst hT w) ym_Tb_secretAt qM_Tb_140 qI_Tb_secretAt qV_Tb_Tb_secretAt zc_Tb hG_Tb d_Tb_freeze_21 rfl (Nat.le_of_ble_eq_true rfl) ⟨by decide, by decide⟩ ⟨Nat.le_of_ble_eq_true rfl, Nat.le_of_ble_eq_true rfl⟩ ?_ ?_
    · exact fun E G9 hx => z_out ⟨hx.2.2, Or.inr hx.1, hx.2.1⟩ (by decide) (by decide)
    intro r_21 G_21 hp_21
    obtain ⟨si, hsi, rfl, rfl, hg_21⟩ := hp_21
    obtain rfl : G = G_21 := hg_21.symm
    refine z_astore (L' := [(4, _), (0, _), (1, _), (2, _), (3, _)]) d_Tb_freeze_24 (by decide) rfl ?_
    refine z_iconst (v := 1) d_Tb_freeze_26 (by decide) ?_
    refine z_iload_n 2 d_Tb_freeze_27 rfl rfl ?_
    refine z_ishl d_Tb_freeze_28 ?_
    refine z_istore (L' := [(5, _), (4, _), (0, _), (1, _), (2, _), (3, _)]) d_Tb_freeze_29 (by decide) rfl ?_
    refine z_aload 1 d_Tb_freeze_31 rfl ?_
    refine z_iload_n 5 d_Tb_freeze_33 rfl rfl ?_
    refine z_if_eq 48 d_Tb_freeze_34 (by decide) (fun c_34 => ?_) (fun c_34 => ?_)
    · skip
      refine z_aload 1 d_Tb_freeze_48 rfl ?_
      refine z_get zc_Se 6 (by decide) qF_Tb_213 (by first | exact zu_s | exact (hT.se hsi).1) rfl d_Tb_freeze_50 ?_
      refine z_iload 0 d_Tb_freeze_53 rfl ?_
      refine z_iconst (v := (-1)) d_Tb_freeze_55 (by decide) ?_
      refine z_ixor d_Tb_freeze_56 ?_
      refine z_iand d_Tb_freeze_57 ?_
      refine z_put zc_Se 6 (by decide) qF_Tb_213 (by first | exact zu_s | exact (hT.se hsi).1) rfl rfl rfl (Nat.le_of_ble_eq_true rfl) d_Tb_freeze_58 ?_
      refine z_aload 1 d_Tb_freeze_61 rfl ?_
      refine z_get zc_Se 6 (by decide) qF_Tb_213 (by first | exact zu_s | exact (hT.se hsi).1) rfl d_Tb_freeze_63 ?_
      refine z_callS0 (m_In_bitCount hs0 hst _) ym_In_bitCount qM_Tb_105 qS_In_bitCount d_Tb_freeze_66 rfl (Nat.le_of_ble_eq_true rfl) ⟨by decide, by decide⟩ ⟨Nat.le_of_ble_eq_true rfl, Nat.le_of_ble_eq_true rfl⟩ ?_
      exact z_iret rfl (⟨si, hsi, rfl, (zb_n0 _).mp c_6, by first | rw [if_pos c_34] | rw [if_neg c_34], by first | rw [if_pos c_34]; exact (hT.puts hsi _ _ _).1 | rw [if_neg c_34]; exact (hT.puts hsi _ _ _).1, (hT.puts hsi _ _ _).2⟩) (by first | decide | omega) (by first | decide | omega) d_Tb_freeze_69
    · skip
      refine z_aload 1 d_Tb_freeze_37 rfl ?_
      refine z_get zc_Se 6 (by decide) qF_Tb_213 (by first | exact zu_s | exact (hT.se hsi).1) rfl d_Tb_freeze_39 ?_
      refine z_iload 0 d_Tb_freeze_42 rfl ?_
      refine z_ior d_Tb_freeze_44 ?_
      refine z_goto 58 d_Tb_freeze_45 (by decide) ?_
      refine z_put zc_Se 6 (by decide) qF_Tb_213 (by first | exact zu_s | exact (hT.se hsi).1) rfl rfl rfl (Nat.le_of_ble_eq_true rfl) d_Tb_freeze_58 ?_
      refine z_aload 1 d_Tb_freeze_61 rfl ?_
      refine z_get zc_Se 6 (by decide) qF_Tb_213 (by first | exact zu_s | exact (hT.se hsi).1) rfl d_Tb_freeze_63 ?_
      refine z_callS0 (m_In_bitCount hs0 hst _) ym_In_bitCount qM_Tb_105 qS_In_bitCount d_Tb_freeze_66 rfl (Nat.le_of_ble_eq_true rfl) ⟨by decide, by decide⟩ ⟨Nat.le_of_ble_eq_true rfl, Nat.le_of_ble_eq_true rfl⟩ ?_
      exact z_iret rfl (⟨si, hsi, rfl, (zb_n0 _).mp c_6, by first | rw [if_pos c_34] | rw [if_neg c_34], by first | rw [if_pos c_34]; exact (hT.puts hsi _ _ _).1 | rw [if_neg c_34]; exact (hT.puts hsi _ _ _).1, (hT.puts hsi _ _ _).2⟩) (by first | decide | omega) (by first | decide | omega) d_Tb_freeze_69
  · skip
    exact z_thS (names := ["java/lang/RuntimeException", "java/lang/Exception"]) (by decide) (by decide) qK_Tb_161 qN_IOE qR_Tb_211 th_165.1 th_165.2 d_Tb_freeze_9 d_Tb_freeze_12 d_Tb_freeze_13 d_Tb_freeze_15 d_Tb_freeze_18 (by decide) (Nat.le_of_ble_eq_true rfl) ⟨by decide, by decide⟩ (⟨rfl, Or.inl ((zb_0 _).mp c_6), rfl⟩) (by decide) (by decide)
theorem d_Tb_open_0 : decode c_Tb_open 0 = .ok (.aload_n 0, 1) := by decide +kernel
theorem d_Tb_open_1 : decode c_Tb_open 1 = .ok (.iload_n 1, 1) := by decide +kernel
theorem d_Tb_open_2 : decode c_Tb_open 2 = .ok (.invokevirtual 140, 3) := by decide +kernel
theorem d_Tb_open_5 : decode c_Tb_open 5 = .ok (.astore_n 3, 1) := by decide +kernel
theorem d_Tb_open_6 : decode c_Tb_open 6 = .ok (.aload_n 0, 1) := by decide +kernel
theorem d_Tb_open_7 : decode c_Tb_open 7 = .ok (.iload_n 2, 1) := by decide +kernel
theorem d_Tb_open_8 : decode c_Tb_open 8 = .ok (.invokevirtual 101, 3) := by decide +kernel
theorem d_Tb_open_11 : decode c_Tb_open 11 = .ok (.aload_n 0, 1) := by decide +kernel
theorem d_Tb_open_12 : decode c_Tb_open 12 = .ok (.aload_n 3, 1) := by decide +kernel
theorem d_Tb_open_13 : decode c_Tb_open 13 = .ok (.iload_n 2, 1) := by decide +kernel
theorem d_Tb_open_14 : decode c_Tb_open 14 = .ok (.invokevirtual 184, 3) := by decide +kernel
theorem d_Tb_open_17 : decode c_Tb_open 17 = .ok (.aload_n 0, 1) := by decide +kernel
theorem d_Tb_open_18 : decode c_Tb_open 18 = .ok (.getfield 36, 3) := by decide +kernel
theorem d_Tb_open_21 : decode c_Tb_open 21 = .ok (.invokevirtual 188, 3) := by decide +kernel
theorem d_Tb_open_24 : decode c_Tb_open 24 = .ok (.aload_n 0, 1) := by decide +kernel
theorem d_Tb_open_25 : decode c_Tb_open 25 = .ok (.aload_n 3, 1) := by decide +kernel
theorem d_Tb_open_26 : decode c_Tb_open 26 = .ok (.aload_n 0, 1) := by decide +kernel
theorem d_Tb_open_27 : decode c_Tb_open 27 = .ok (.getfield 36, 3) := by decide +kernel
theorem d_Tb_open_30 : decode c_Tb_open 30 = .ok (.invokevirtual 200, 3) := by decide +kernel
theorem d_Tb_open_33 : decode c_Tb_open 33 = .ok (.invokevirtual 220, 3) := by decide +kernel
theorem d_Tb_open_36 : decode c_Tb_open 36 = .ok (.ifCond .ne 28, 3) := by decide +kernel
theorem d_Tb_open_39 : decode c_Tb_open 39 = .ok (.aload_n 0, 1) := by decide +kernel
theorem d_Tb_open_40 : decode c_Tb_open 40 = .ok (.dup, 1) := by decide +kernel
theorem d_Tb_open_41 : decode c_Tb_open 41 = .ok (.getfield 48, 3) := by decide +kernel
theorem d_Tb_open_44 : decode c_Tb_open 44 = .ok (.iconst 1, 1) := by decide +kernel
theorem d_Tb_open_45 : decode c_Tb_open 45 = .ok (.iadd, 1) := by decide +kernel
theorem d_Tb_open_46 : decode c_Tb_open 46 = .ok (.putfield 48, 3) := by decide +kernel
theorem d_Tb_open_49 : decode c_Tb_open 49 = .ok (.aload_n 0, 1) := by decide +kernel
theorem d_Tb_open_50 : decode c_Tb_open 50 = .ok (.getfield 22, 3) := by decide +kernel
theorem d_Tb_open_53 : decode c_Tb_open 53 = .ok (.iconst 5, 1) := by decide +kernel
theorem d_Tb_open_54 : decode c_Tb_open 54 = .ok (.iload_n 1, 1) := by decide +kernel
theorem d_Tb_open_55 : decode c_Tb_open 55 = .ok (.aload_n 0, 1) := by decide +kernel
theorem d_Tb_open_56 : decode c_Tb_open 56 = .ok (.getfield 44, 3) := by decide +kernel
theorem d_Tb_open_59 : decode c_Tb_open 59 = .ok (.invokevirtual 137, 3) := by decide +kernel
theorem d_Tb_open_62 : decode c_Tb_open 62 = .ok (.iconst (-1), 1) := by decide +kernel
theorem d_Tb_open_63 : decode c_Tb_open 63 = .ok (.ireturn, 1) := by decide +kernel
theorem d_Tb_open_64 : decode c_Tb_open 64 = .ok (.aload_n 0, 1) := by decide +kernel
theorem d_Tb_open_65 : decode c_Tb_open 65 = .ok (.getfield 36, 3) := by decide +kernel
theorem d_Tb_open_68 : decode c_Tb_open 68 = .ok (.invokevirtual 191, 3) := by decide +kernel
theorem d_Tb_open_71 : decode c_Tb_open 71 = .ok (.ifCond .ne 30, 3) := by decide +kernel
theorem d_Tb_open_74 : decode c_Tb_open 74 = .ok (.aload_n 0, 1) := by decide +kernel
theorem d_Tb_open_75 : decode c_Tb_open 75 = .ok (.dup, 1) := by decide +kernel
theorem d_Tb_open_76 : decode c_Tb_open 76 = .ok (.getfield 51, 3) := by decide +kernel
theorem d_Tb_open_79 : decode c_Tb_open 79 = .ok (.iconst 1, 1) := by decide +kernel
theorem d_Tb_open_80 : decode c_Tb_open 80 = .ok (.iadd, 1) := by decide +kernel
theorem d_Tb_open_81 : decode c_Tb_open 81 = .ok (.putfield 51, 3) := by decide +kernel
theorem d_Tb_open_84 : decode c_Tb_open 84 = .ok (.aload_n 0, 1) := by decide +kernel
theorem d_Tb_open_85 : decode c_Tb_open 85 = .ok (.getfield 22, 3) := by decide +kernel
theorem d_Tb_open_88 : decode c_Tb_open 88 = .ok (.bipush 6, 2) := by decide +kernel
theorem d_Tb_open_90 : decode c_Tb_open 90 = .ok (.iload_n 1, 1) := by decide +kernel
theorem d_Tb_open_91 : decode c_Tb_open 91 = .ok (.aload_n 0, 1) := by decide +kernel
theorem d_Tb_open_92 : decode c_Tb_open 92 = .ok (.getfield 44, 3) := by decide +kernel
theorem d_Tb_open_95 : decode c_Tb_open 95 = .ok (.invokevirtual 137, 3) := by decide +kernel
theorem d_Tb_open_98 : decode c_Tb_open 98 = .ok (.bipush (-2), 2) := by decide +kernel
theorem d_Tb_open_100 : decode c_Tb_open 100 = .ok (.ireturn, 1) := by decide +kernel
theorem d_Tb_open_101 : decode c_Tb_open 101 = .ok (.aload_n 0, 1) := by decide +kernel
theorem d_Tb_open_102 : decode c_Tb_open 102 = .ok (.aload_n 0, 1) := by decide +kernel
theorem d_Tb_open_103 : decode c_Tb_open 103 = .ok (.getfield 36, 3) := by decide +kernel
theorem d_Tb_open_106 : decode c_Tb_open 106 = .ok (.invokevirtual 224, 3) := by decide +kernel
theorem d_Tb_open_109 : decode c_Tb_open 109 = .ok (.invokevirtual 227, 3) := by decide +kernel
theorem d_Tb_open_112 : decode c_Tb_open 112 = .ok (.aload_n 0, 1) := by decide +kernel
theorem d_Tb_open_113 : decode c_Tb_open 113 = .ok (.getfield 22, 3) := by decide +kernel
theorem d_Tb_open_116 : decode c_Tb_open 116 = .ok (.iconst 4, 1) := by decide +kernel
theorem d_Tb_open_117 : decode c_Tb_open 117 = .ok (.iload_n 1, 1) := by decide +kernel
theorem d_Tb_open_118 : decode c_Tb_open 118 = .ok (.aload_n 0, 1) := by decide +kernel
theorem d_Tb_open_119 : decode c_Tb_open 119 = .ok (.getfield 44, 3) := by decide +kernel
theorem d_Tb_open_122 : decode c_Tb_open 122 = .ok (.invokevirtual 137, 3) := by decide +kernel
theorem d_Tb_open_125 : decode c_Tb_open 125 = .ok (.aload_n 0, 1) := by decide +kernel
theorem d_Tb_open_126 : decode c_Tb_open 126 = .ok (.getfield 36, 3) := by decide +kernel
theorem d_Tb_open_129 : decode c_Tb_open 129 = .ok (.iconst 0, 1) := by decide +kernel
theorem d_Tb_open_130 : decode c_Tb_open 130 = .ok (.invokevirtual 197, 3) := by decide +kernel
theorem d_Tb_open_133 : decode c_Tb_open 133 = .ok (.ireturn, 1) := by decide +kernel
set_option maxHeartbeats 4000000 in
set_option maxRecDepth 100000 in
theorem m_Tb_openE {g0 : State} {d : zD} {l : Launch} {a0 : Array Value} (hs0 : zS0 d a0 g0) (hst : l.stackTraces = false) {G : zG} {A : Nat → Nat} {D : Nat → UInt64} {V : Nat → Nat → Int32} {nk ns : Nat} (hT : zT d A D V nk ns G) (x set : Int32) : zMet g0 d l y_Tb_open c_Tb_open 4 ((Option.some Jvm.ClassFile.FieldType.int)) 13 2 12 [.ref (A 0), .int x, .int set] (G) (fun r G1 => ∃ si, si < ns ∧ x = nI si ∧ zsetok nk set = true ∧ ∃ V', zT d A D V' nk ns G1 ∧ zOp V V' nk si set x r ∧ tFr A nk ns G G1) (zXo d A nk ns V G (fun E => (zoo ns x ∧ E = "java/lang/IndexOutOfBoundsException") ∨ ((∃ si, si < ns ∧ x = nI si) ∧ zsetok nk set = false ∧ E = "java/lang/IllegalArgumentException"))) := by
  have hG_Tb := hT.tb
  have hnk : nk ≤ 8 := hT.2.1
  have hns : ns ≤ 6 := hT.2.2.1
  refine z_entry hs0 hst (by decide) (Nat.le_of_ble_eq_true rfl) (fun p e s m args below meth c => ?_)
  refine z_aload_n 0 d_Tb_open_0 rfl rfl ?_
  refine z_iload_n 1 d_Tb_open_1 rfl rfl ?_
  refine z_callV (m_Tb_secretAt hs0 hst hT x) ym_Tb_secretAt qM_Tb_140 qI_Tb_secretAt qV_Tb_Tb_secretAt zc_Tb hG_Tb d_Tb_open_2 rfl (Nat.le_of_ble_eq_true rfl) ⟨by decide, by decide⟩ ⟨Nat.le_of_ble_eq_true rfl, Nat.le_of_ble_eq_true rfl⟩ ?_ ?_
  · exact fun E G9 hx => by
      obtain ⟨hx1, rfl, hx3⟩ := hx
      obtain rfl : G = G9 := hx3.symm
      exact z_out ⟨Or.inl ⟨hx1, rfl⟩, D, V, hT, zKo.rf, zFr.rf⟩ (by decide) (by decide)
  intro r_2 G_2 hp_2
  obtain ⟨si, hsi, rfl, rfl, hg_2⟩ := hp_2
  obtain rfl : G = G_2 := hg_2.symm
  refine z_astore_n (L' := [(3, _), (0, _), (1, _), (2, _)]) d_Tb_open_5 rfl (by decide) rfl ?_
  refine z_aload_n 1 d_Tb_open_6 rfl rfl ?_
  refine z_iload_n 3 d_Tb_open_7 rfl rfl ?_
  refine z_callV (m_Tb_needSet hs0 hst hT set) ym_Tb_needSet qM_Tb_101 qI_Tb_needSet qV_Tb_Tb_needSet zc_Tb hG_Tb d_Tb_open_8 rfl (Nat.le_of_ble_eq_true rfl) ⟨by decide, by decide⟩ ⟨Nat.le_of_ble_eq_true rfl, Nat.le_of_ble_eq_true rfl⟩ ?_ ?_
  · exact fun E G9 hx => by
      obtain ⟨hx1, rfl, hx3⟩ := hx
      obtain rfl : G = G9 := hx3.symm
      exact z_out ⟨Or.inr ⟨⟨si, hsi, rfl⟩, hx1, rfl⟩, D, V, hT, zKo.rf, zFr.rf⟩ (by decide) (by decide)
  intro r_8 G_8 hp_8
  obtain ⟨hs_8, hr_8, hg_8⟩ := hp_8
  obtain rfl : r_8 = none := hr_8
  obtain rfl : G = G_8 := hg_8.symm
  refine z_aload_n 1 d_Tb_open_11 rfl rfl ?_
  refine z_aload_n 0 d_Tb_open_12 rfl rfl ?_
  refine z_iload_n 3 d_Tb_open_13 rfl rfl ?_
  refine z_callVp0 ((m_Tb_gatherGroupE hs0 hst hT hsi set)) ym_Tb_gatherGroup qM_Tb_184 qI_Tb_gatherGroup qV_Tb_Tb_gatherGroup zc_Tb hG_Tb d_Tb_open_14 rfl (Nat.le_of_ble_eq_true rfl) ⟨by decide, by decide⟩ ⟨Nat.le_of_ble_eq_true rfl, Nat.le_of_ble_eq_true rfl⟩ (fun r_14 G_14 hp_14 => ?_)
  obtain ⟨hr_14, V3, hT3, hK3, hF3⟩ := hp_14
  obtain rfl : r_14 = none := hr_14
  obtain ⟨q9, hq9, eq9⟩ := hT3.2.2.2.1
  have hg9 := hT3.gA
  rw [eq9] at hg9
  refine z_aload_n 1 d_Tb_open_17 rfl rfl ?_
  refine z_get zc_Tb 4 (by decide) qF_Tb_36 hT3.tb rfl d_Tb_open_18 ?_
  refine z_callVp0 (m_Gr_decode hs0 hst hg9 hq9) ym_Gr_decode qM_Tb_188 qI_Gr_decode qV_Gr_Gr_decode zc_Gr hT3.gr d_Tb_open_21 rfl (Nat.le_of_ble_eq_true rfl) ⟨by decide, by decide⟩ ⟨Nat.le_of_ble_eq_true rfl, Nat.le_of_ble_eq_true rfl⟩ (fun r_21 G_21 hp_21 => ?_)
  obtain ⟨hr_21, hg_21⟩ := hp_21
  obtain rfl : r_21 = none := hr_21
  obtain ⟨hT4, hF4⟩ := hT3.putgE (V3 12 0) (zdec (V3 13) (V3 14) (V3 12 0) (nI q9) (V3 12 2) (V3 12 3) q9).1 (zdec (V3 13) (V3 14) (V3 12 0) (nI q9) (V3 12 2) (V3 12 3) q9).2 (p := nI q9) ⟨q9, hq9, rfl⟩
  rw [← hg_21] at hT4 hF4
  have hD4 : zDd V _ nk si set := ⟨V3, q9, hq9, hK3, eq9, rfl⟩
  generalize hV4 : rset V3 12 (z4 (V3 12 0) (nI q9) (zdec (V3 13) (V3 14) (V3 12 0) (nI q9) (V3 12 2) (V3 12 3) q9).1 (zdec (V3 13) (V3 14) (V3 12 0) (nI q9) (V3 12 2) (V3 12 3) q9).2) = V4 at hT4 hD4
  refine z_aload_n 1 d_Tb_open_24 rfl rfl ?_
  refine z_aload_n 0 d_Tb_open_25 rfl rfl ?_
  refine z_aload_n 1 d_Tb_open_26 rfl rfl ?_
  refine z_get zc_Tb 4 (by decide) qF_Tb_36 hT4.tb rfl d_Tb_open_27 ?_
  refine z_callV0 (m_Gr_members hs0 hst hT4.gA) ym_Gr_members qM_Tb_200 qI_Gr_members qV_Gr_Gr_members zc_Gr hT4.gr d_Tb_open_30 rfl (Nat.le_of_ble_eq_true rfl) ⟨by decide, by decide⟩ ⟨Nat.le_of_ble_eq_true rfl, Nat.le_of_ble_eq_true rfl⟩ ?_
  refine z_callV0 ((m_Tb_isLawfulE hs0 hst hT4 (hT4.se hsi) _)) ym_Tb_isLawful qM_Tb_220 qI_Tb_isLawful qV_Tb_Tb_isLawful zc_Tb hT4.tb d_Tb_open_33 rfl (Nat.le_of_ble_eq_true rfl) ⟨by decide, by decide⟩ ⟨Nat.le_of_ble_eq_true rfl, Nat.le_of_ble_eq_true rfl⟩ ?_
  refine z_if_ne 64 d_Tb_open_36 (by decide) (fun c_36 => ?_) (fun c_36 => ?_)
  · skip
    refine z_aload_n 1 d_Tb_open_64 rfl rfl ?_
    refine z_get zc_Tb 4 (by decide) qF_Tb_36 hT4.tb rfl d_Tb_open_65 ?_
    refine z_callV0 (m_Gr_isGood hs0 hst hT4.gA) ym_Gr_isGood qM_Tb_191 qI_Gr_isGood qV_Gr_Gr_isGood zc_Gr hT4.gr d_Tb_open_68 rfl (Nat.le_of_ble_eq_true rfl) ⟨by decide, by decide⟩ ⟨Nat.le_of_ble_eq_true rfl, Nat.le_of_ble_eq_true rfl⟩ ?_
    refine z_if_ne 101 d_Tb_open_71 (by decide) (fun c_71 => ?_) (fun c_71 => ?_)
    · skip
      refine z_aload_n 1 d_Tb_open_101 rfl rfl ?_
      refine z_aload_n 1 d_Tb_open_102 rfl rfl ?_
      refine z_get zc_Tb 4 (by decide) qF_Tb_36 hT4.tb rfl d_Tb_open_103 ?_
      refine z_callV0 (m_Gr_liars hs0 hst hT4.gA) ym_Gr_liars qM_Tb_224 qI_Gr_liars qV_Gr_Gr_liars zc_Gr hT4.gr d_Tb_open_106 rfl (Nat.le_of_ble_eq_true rfl) ⟨by decide, by decide⟩ ⟨Nat.le_of_ble_eq_true rfl, Nat.le_of_ble_eq_true rfl⟩ ?_
      refine z_callVp0 ((m_Tb_noteAllE hs0 hst hT4 _)) ym_Tb_noteAll qM_Tb_227 qI_Tb_noteAll qV_Tb_Tb_noteAll zc_Tb hT4.tb d_Tb_open_109 rfl (Nat.le_of_ble_eq_true rfl) ⟨by decide, by decide⟩ ⟨Nat.le_of_ble_eq_true rfl, Nat.le_of_ble_eq_true rfl⟩ (fun r_109 G_109 hp_109 => ?_)
      obtain ⟨hr_109, V5, hT5, hK5, hF5⟩ := hp_109
      obtain rfl : r_109 = none := hr_109
      refine z_aload_n 1 d_Tb_open_112 rfl rfl ?_
      refine z_get zc_Tb 2 (by decide) qF_Tb_22 hT5.tb rfl d_Tb_open_113 ?_
      refine z_iconst (v := 4) d_Tb_open_116 (by decide) ?_
      refine z_iload_n 2 d_Tb_open_117 rfl rfl ?_
      refine z_aload_n 1 d_Tb_open_118 rfl rfl ?_
      refine z_get zc_Tb 6 (by decide) qF_Tb_44 hT5.tb rfl d_Tb_open_119 ?_
      refine z_callVp0 (m_Re_enterE hs0 hst hT5 _ _ _) ym_Re_enter qM_Tb_137 qI_Re_enter qV_Re_Re_enter zc_Re hT5.re d_Tb_open_122 rfl (Nat.le_of_ble_eq_true rfl) ⟨by decide, by decide⟩ ⟨Nat.le_of_ble_eq_true rfl, Nat.le_of_ble_eq_true rfl⟩ (fun r_122 G_122 hp_122 => ?_)
      obtain ⟨hr_122, V6, hT6, hK6, hF6⟩ := hp_122
      obtain rfl : r_122 = none := hr_122
      refine z_aload_n 1 d_Tb_open_125 rfl rfl ?_
      refine z_get zc_Tb 4 (by decide) qF_Tb_36 hT6.tb rfl d_Tb_open_126 ?_
      refine z_iconst (v := 0) d_Tb_open_129 (by decide) ?_
      refine z_callV0 (m_Gr_curveAt hs0 hst hT6.gA _) ym_Gr_curveAt qM_Tb_197 qI_Gr_curveAt qV_Gr_Gr_curveAt zc_Gr hT6.gr d_Tb_open_130 rfl (Nat.le_of_ble_eq_true rfl) ⟨by decide, by decide⟩ ⟨Nat.le_of_ble_eq_true rfl, Nat.le_of_ble_eq_true rfl⟩ ?_
      exact z_iret rfl (⟨si, hsi, rfl, hs_8, V6, hT6, ⟨V4, hD4, Or.inr (Or.inr ⟨(zb_n0 _).mp c_36, (zb_n0 _).mp c_71, V5, hK5, hK6, rfl⟩)⟩, ((hF3.tr hF4).tr hF5).tr hF6⟩) (by first | decide | omega) (by first | decide | omega) d_Tb_open_133
    · skip
      refine z_aload_n 1 d_Tb_open_74 rfl rfl ?_
      refine z_dup d_Tb_open_75 rfl ?_
      refine z_get zc_Tb 8 (by decide) qF_Tb_51 hT4.tb rfl d_Tb_open_76 ?_
      refine z_iconst (v := 1) d_Tb_open_79 (by decide) ?_
      refine z_iadd d_Tb_open_80 ?_
      refine z_put zc_Tb 8 (by decide) qF_Tb_51 hT4.tb rfl rfl rfl (Nat.le_of_ble_eq_true rfl) d_Tb_open_81 ?_
      obtain ⟨hT5, hF5⟩ := hT4.put0 (V4 0 0) (V4 0 1) (V4 0 2 + 1) (V4 0 3)
      refine z_aload_n 1 d_Tb_open_84 rfl rfl ?_
      refine z_get zc_Tb 2 (by decide) qF_Tb_22 hT5.tb rfl d_Tb_open_85 ?_
      refine z_bipush (v := 6) d_Tb_open_88 (by decide) ?_
      refine z_iload_n 2 d_Tb_open_90 rfl rfl ?_
      refine z_aload_n 1 d_Tb_open_91 rfl rfl ?_
      refine z_get zc_Tb 6 (by decide) qF_Tb_44 hT5.tb rfl d_Tb_open_92 ?_
      refine z_callVp0 (m_Re_enterE hs0 hst hT5 _ _ _) ym_Re_enter qM_Tb_137 qI_Re_enter qV_Re_Re_enter zc_Re hT5.re d_Tb_open_95 rfl (Nat.le_of_ble_eq_true rfl) ⟨by decide, by decide⟩ ⟨Nat.le_of_ble_eq_true rfl, Nat.le_of_ble_eq_true rfl⟩ (fun r_95 G_95 hp_95 => ?_)
      obtain ⟨hr_95, V6, hT6, hK6, hF6⟩ := hp_95
      obtain rfl : r_95 = none := hr_95
      refine z_bipush (v := (-2)) d_Tb_open_98 (by decide) ?_
      exact z_iret rfl (⟨si, hsi, rfl, hs_8, V6, hT6, ⟨V4, hD4, Or.inr (Or.inl ⟨(zb_n0 _).mp c_36, (zb_0 _).mp c_71, rfl, hK6⟩)⟩, ((hF3.tr hF4).tr hF5).tr hF6⟩) (by first | decide | omega) (by first | decide | omega) d_Tb_open_100
  · skip
    refine z_aload_n 1 d_Tb_open_39 rfl rfl ?_
    refine z_dup d_Tb_open_40 rfl ?_
    refine z_get zc_Tb 7 (by decide) qF_Tb_48 hT4.tb rfl d_Tb_open_41 ?_
    refine z_iconst (v := 1) d_Tb_open_44 (by decide) ?_
    refine z_iadd d_Tb_open_45 ?_
    refine z_put zc_Tb 7 (by decide) qF_Tb_48 hT4.tb rfl rfl rfl (Nat.le_of_ble_eq_true rfl) d_Tb_open_46 ?_
    obtain ⟨hT5, hF5⟩ := hT4.put0 (V4 0 0) (V4 0 1 + 1) (V4 0 2) (V4 0 3)
    refine z_aload_n 1 d_Tb_open_49 rfl rfl ?_
    refine z_get zc_Tb 2 (by decide) qF_Tb_22 hT5.tb rfl d_Tb_open_50 ?_
    refine z_iconst (v := 5) d_Tb_open_53 (by decide) ?_
    refine z_iload_n 2 d_Tb_open_54 rfl rfl ?_
    refine z_aload_n 1 d_Tb_open_55 rfl rfl ?_
    refine z_get zc_Tb 6 (by decide) qF_Tb_44 hT5.tb rfl d_Tb_open_56 ?_
    refine z_callVp0 (m_Re_enterE hs0 hst hT5 _ _ _) ym_Re_enter qM_Tb_137 qI_Re_enter qV_Re_Re_enter zc_Re hT5.re d_Tb_open_59 rfl (Nat.le_of_ble_eq_true rfl) ⟨by decide, by decide⟩ ⟨Nat.le_of_ble_eq_true rfl, Nat.le_of_ble_eq_true rfl⟩ (fun r_59 G_59 hp_59 => ?_)
    obtain ⟨hr_59, V6, hT6, hK6, hF6⟩ := hp_59
    obtain rfl : r_59 = none := hr_59
    refine z_iconst (v := (-1)) d_Tb_open_62 (by decide) ?_
    exact z_iret rfl (⟨si, hsi, rfl, hs_8, V6, hT6, ⟨V4, hD4, Or.inl ⟨(zb_0 _).mp c_36, rfl, hK6⟩⟩, ((hF3.tr hF4).tr hF5).tr hF6⟩) (by first | decide | omega) (by first | decide | omega) d_Tb_open_63

def zfl_ (V : Nat → Nat → Int32) (x : Int32) (k : Nat) : Bool := decide (V (100 + k) 1 = x)
/-- the shares of the zone's keepers among the first i are lost, and how many there were -/
def zFd (V V' : Nat → Nat → Int32) (ns : Nat) (x : Int32) (i : Nat) : Prop := (∀ r, ¬ (300 ≤ r ∧ r < 300 + ns) → ¬ (400 ≤ r ∧ r < 400 + ns) → V' r = V r) ∧ ∀ s, s < ns → (∀ j, (j < i ∧ zfl_ V x j = true → V' (300 + s) j = -1 ∧ V' (400 + s) j = -1) ∧ (¬ (j < i ∧ zfl_ V x j = true) → V' (300 + s) j = V (300 + s) j ∧ V' (400 + s) j = V (400 + s) j))
def zgone (V : Nat → Nat → Int32) (ns : Nat) (x : Int32) : Nat → Int32
  | 0 => nI 0
  | i + 1 => if zfl_ V x i = true then zgone V ns x i + nI (zcnt (fun s => decide (V (400 + s) i ≠ -1)) ns) else zgone V ns x i
theorem zgone_t {V : Nat → Nat → Int32} {ns i : Nat} {x : Int32} (h : zfl_ V x i = true) : zgone V ns x i + nI (zcnt (fun s => decide (V (400 + s) i ≠ -1)) ns) = zgone V ns x (i + 1) := (if_pos h).symm
theorem zgone_f {V : Nat → Nat → Int32} {ns i : Nat} {x : Int32} (h : zfl_ V x i = false) : zgone V ns x i = zgone V ns x (i + 1) := (if_neg (by rw [h]; decide)).symm
section ZFD
variable {V V2 V3 : Nat → Nat → Int32} {ns i : Nat} {x : Int32}
theorem zFd.z : zFd V V ns x 0 := ⟨fun _ _ _ => rfl, fun s hs j => ⟨fun h => absurd h.1 (Nat.not_lt_zero _), fun _ => ⟨rfl, rfl⟩⟩⟩
theorem zFd.skip (h : zFd V V2 ns x i) (hf : zfl_ V x i = false) : zFd V V2 ns x (i + 1) := by
  refine ⟨h.1, fun s hs j => ⟨fun h2 => (h.2 s hs j).1 ⟨?_, h2.2⟩, fun h2 => (h.2 s hs j).2 (fun q => h2 ⟨by omega, q.2⟩)⟩⟩
  have : j ≠ i := fun e => by rw [e, hf] at h2; cases h2.2
  omega
theorem zFd.lose (h : zFd V V2 ns x i) (h6 : ns ≤ 6) (hf : zfl_ V x i = true) (hl : zLo V2 V3 i ns) : zFd V V3 ns x (i + 1) := by
  refine ⟨fun r h1 h2 => (hl.1 r h1 h2).trans (h.1 r h1 h2), fun s hs j => ?_⟩
  rw [(hl.2 s hs).1, (hl.2 s hs).2]
  by_cases e : j = i
  · subst e
    rw [pk_us, pk_us]
    exact ⟨fun _ => ⟨rfl, rfl⟩, fun q => absurd ⟨Nat.lt_succ_self j, hf⟩ q⟩
  · rw [pk_un e, pk_un e]
    exact ⟨fun q => (h.2 s hs j).1 ⟨by omega, q.2⟩, fun q => (h.2 s hs j).2 (fun z => q ⟨by omega, z.2⟩)⟩
theorem zFd.cnt (h : zFd V V2 ns x i) : zcnt (fun s => decide (V2 (400 + s) i ≠ -1)) ns = zcnt (fun s => decide (V (400 + s) i ≠ -1)) ns :=
  zcnt_congr ns fun s hs => by rw [((h.2 s hs i).2 (fun q => absurd q.1 (Nat.lt_irrefl i))).2]
theorem zFd.k (h : zFd V V2 ns x i) (h6 : ns ≤ 6) {k : Nat} (hk : k < 8) : V2 (100 + k) = V (100 + k) := h.1 _ (by omega) (by omega)
end ZFD

theorem d_Tb_flood_0 : decode c_Tb_flood 0 = .ok (.iload_n 1, 1) := by decide +kernel
theorem d_Tb_flood_1 : decode c_Tb_flood 1 = .ok (.iconst 0, 1) := by decide +kernel
theorem d_Tb_flood_2 : decode c_Tb_flood 2 = .ok (.iconst 3, 1) := by decide +kernel
theorem d_Tb_flood_3 : decode c_Tb_flood 3 = .ok (.invokestatic 57, 3) := by decide +kernel
theorem d_Tb_flood_6 : decode c_Tb_flood 6 = .ok (.ifCond .ne 13, 3) := by decide +kernel
theorem d_Tb_flood_9 : decode c_Tb_flood 9 = .ok (.new 161, 3) := by decide +kernel
theorem d_Tb_flood_12 : decode c_Tb_flood 12 = .ok (.dup, 1) := by decide +kernel
theorem d_Tb_flood_13 : decode c_Tb_flood 13 = .ok (.ldc 163, 2) := by decide +kernel
theorem d_Tb_flood_15 : decode c_Tb_flood 15 = .ok (.invokespecial 165, 3) := by decide +kernel
theorem d_Tb_flood_18 : decode c_Tb_flood 18 = .ok (.athrow, 1) := by decide +kernel
theorem d_Tb_flood_19 : decode c_Tb_flood 19 = .ok (.iconst 0, 1) := by decide +kernel
theorem d_Tb_flood_20 : decode c_Tb_flood 20 = .ok (.istore_n 2, 1) := by decide +kernel
theorem d_Tb_flood_21 : decode c_Tb_flood 21 = .ok (.iconst 0, 1) := by decide +kernel
theorem d_Tb_flood_22 : decode c_Tb_flood 22 = .ok (.istore_n 3, 1) := by decide +kernel
theorem d_Tb_flood_23 : decode c_Tb_flood 23 = .ok (.iload_n 3, 1) := by decide +kernel
theorem d_Tb_flood_24 : decode c_Tb_flood 24 = .ok (.aload_n 0, 1) := by decide +kernel
theorem d_Tb_flood_25 : decode c_Tb_flood 25 = .ok (.getfield 10, 3) := by decide +kernel
theorem d_Tb_flood_28 : decode c_Tb_flood 28 = .ok (.invokevirtual 68, 3) := by decide +kernel
theorem d_Tb_flood_31 : decode c_Tb_flood 31 = .ok (.if_icmp .ge 40, 3) := by decide +kernel
theorem d_Tb_flood_34 : decode c_Tb_flood 34 = .ok (.aload_n 0, 1) := by decide +kernel
theorem d_Tb_flood_35 : decode c_Tb_flood 35 = .ok (.getfield 10, 3) := by decide +kernel
theorem d_Tb_flood_38 : decode c_Tb_flood 38 = .ok (.iload_n 3, 1) := by decide +kernel
theorem d_Tb_flood_39 : decode c_Tb_flood 39 = .ok (.invokevirtual 166, 3) := by decide +kernel
theorem d_Tb_flood_42 : decode c_Tb_flood 42 = .ok (.checkcast 77, 3) := by decide +kernel
theorem d_Tb_flood_45 : decode c_Tb_flood 45 = .ok (.getfield 170, 3) := by decide +kernel
theorem d_Tb_flood_48 : decode c_Tb_flood 48 = .ok (.iload_n 1, 1) := by decide +kernel
theorem d_Tb_flood_49 : decode c_Tb_flood 49 = .ok (.if_icmp .ne 16, 3) := by decide +kernel
theorem d_Tb_flood_52 : decode c_Tb_flood 52 = .ok (.iload_n 2, 1) := by decide +kernel
theorem d_Tb_flood_53 : decode c_Tb_flood 53 = .ok (.aload_n 0, 1) := by decide +kernel
theorem d_Tb_flood_54 : decode c_Tb_flood 54 = .ok (.iload_n 3, 1) := by decide +kernel
theorem d_Tb_flood_55 : decode c_Tb_flood 55 = .ok (.invokevirtual 173, 3) := by decide +kernel
theorem d_Tb_flood_58 : decode c_Tb_flood 58 = .ok (.iadd, 1) := by decide +kernel
theorem d_Tb_flood_59 : decode c_Tb_flood 59 = .ok (.istore_n 2, 1) := by decide +kernel
theorem d_Tb_flood_60 : decode c_Tb_flood 60 = .ok (.aload_n 0, 1) := by decide +kernel
theorem d_Tb_flood_61 : decode c_Tb_flood 61 = .ok (.iload_n 3, 1) := by decide +kernel
theorem d_Tb_flood_62 : decode c_Tb_flood 62 = .ok (.invokevirtual 176, 3) := by decide +kernel
theorem d_Tb_flood_65 : decode c_Tb_flood 65 = .ok (.iinc 3 1, 3) := by decide +kernel
theorem d_Tb_flood_68 : decode c_Tb_flood 68 = .ok (.goto (-45), 3) := by decide +kernel
theorem d_Tb_flood_71 : decode c_Tb_flood 71 = .ok (.aload_n 0, 1) := by decide +kernel
theorem d_Tb_flood_72 : decode c_Tb_flood 72 = .ok (.getfield 22, 3) := by decide +kernel
theorem d_Tb_flood_75 : decode c_Tb_flood 75 = .ok (.iconst 2, 1) := by decide +kernel
theorem d_Tb_flood_76 : decode c_Tb_flood 76 = .ok (.iload_n 1, 1) := by decide +kernel
theorem d_Tb_flood_77 : decode c_Tb_flood 77 = .ok (.aload_n 0, 1) := by decide +kernel
theorem d_Tb_flood_78 : decode c_Tb_flood 78 = .ok (.getfield 44, 3) := by decide +kernel
theorem d_Tb_flood_81 : decode c_Tb_flood 81 = .ok (.invokevirtual 137, 3) := by decide +kernel
theorem d_Tb_flood_84 : decode c_Tb_flood 84 = .ok (.iload_n 2, 1) := by decide +kernel
theorem d_Tb_flood_85 : decode c_Tb_flood 85 = .ok (.ireturn, 1) := by decide +kernel
set_option maxHeartbeats 4000000 in
set_option maxRecDepth 100000 in
theorem m_Tb_floodE {g0 : State} {d : zD} {l : Launch} {a0 : Array Value} (hs0 : zS0 d a0 g0) (hst : l.stackTraces = false) {G : zG} {A : Nat → Nat} {D : Nat → UInt64} {V : Nat → Nat → Int32} {nk ns : Nat} (hT : zT d A D V nk ns G) (x : Int32) : zMet g0 d l y_Tb_flood c_Tb_flood 4 ((Option.some Jvm.ClassFile.FieldType.int)) 12 1 6 [.ref (A 0), .int x] (G) (fun r G1 => zin x 0 3 = true ∧ ∃ V2 V', zT d A D V' nk ns G1 ∧ zFd V V2 ns x nk ∧ zEn V2 V' 2 x (V2 0 0) ∧ r = some (.int (zgone V ns x nk)) ∧ tFr A nk ns G G1) (zXo d A nk ns V G (fun E => zin x 0 3 = false ∧ E = "java/lang/IndexOutOfBoundsException")) := by
  have hG_Tb := hT.tb
  have hnk : nk ≤ 8 := hT.2.1
  have hns : ns ≤ 6 := hT.2.2.1
  refine z_entry hs0 hst (by decide) (Nat.le_of_ble_eq_true rfl) (fun p e s m args below meth c => ?_)
  refine z_iload_n 1 d_Tb_flood_0 rfl rfl ?_
  refine z_iconst (v := 0) d_Tb_flood_1 (by decide) ?_
  refine z_iconst (v := 3) d_Tb_flood_2 (by decide) ?_
  refine z_callS0 (m_Tb_isFrom hs0 hst x 0 _) ym_Tb_isFrom qM_Tb_57 qS_Tb_isFrom d_Tb_flood_3 rfl (Nat.le_of_ble_eq_true rfl) ⟨by decide, by decide⟩ ⟨Nat.le_of_ble_eq_true rfl, Nat.le_of_ble_eq_true rfl⟩ ?_
  refine z_if_ne 19 d_Tb_flood_6 (by decide) (fun c_6 => ?_) (fun c_6 => ?_)
  · skip
    refine z_iconst (v := 0) d_Tb_flood_19 (by decide) ?_
    refine z_istore_n (L' := [(2, _), (0, _), (1, _)]) d_Tb_flood_20 rfl (by decide) rfl ?_
    refine z_iconst (v := (nI 0)) d_Tb_flood_21 (by decide) ?_
    refine z_istore_n (L' := [(3, _), (2, _), (0, _), (1, _)]) d_Tb_flood_22 rfl (by decide) rfl ?_
    have key_23 : ∀ (n : Nat) (i : Nat) (G2 : zG) (V2 : Nat → Nat → Int32), nk - i < n → (i ≤ nk) → (zT d A D V2 nk ns G2) → (zFd V V2 ns x i) → (tFr A nk ns G G2) → Z g0 d y_Tb_flood c_Tb_flood 4 ((Option.some Jvm.ClassFile.FieldType.int)) [] p l e (zR 12 1 6) s m args below meth c (vx_MQ below (zQc g0 d (fun r G1 => zin x 0 3 = true ∧ ∃ V2 V', zT d A D V' nk ns G1 ∧ zFd V V2 ns x nk ∧ zEn V2 V' 2 x (V2 0 0) ∧ r = some (.int (zgone V ns x nk)) ∧ tFr A nk ns G G1)) (zXc g0 d (zXo d A nk ns V G (fun E => zin x 0 3 = false ∧ E = "java/lang/IndexOutOfBoundsException"))) args s 1 6 (zA g0)) 0 0 (G2) [(3, .int (nI i)), (2, .int (zgone V ns x i)), (0, .ref (A 0)), (1, .int x)] [] 23 := by
      intro n
      induction n with
      | zero => intro i G2 V2 h0; exact absurd h0 (Nat.not_lt_zero _)
      | succ n ih_23 =>
        intro i G2 V2 hm_23 hi hT2 hK2 hF2
        refine z_iload_n 0 d_Tb_flood_23 rfl rfl ?_
        refine z_aload_n 2 d_Tb_flood_24 rfl rfl ?_
        refine z_get zc_Tb 0 (by decide) qF_Tb_10 hT2.tb rfl d_Tb_flood_25 ?_
        refine z_callV0 (m_AL_size hs0 hst hT2.kl) ym_AL_size qM_Tb_68 qI_AL_size qV_AL_AL_size zc_AL hT2.kl d_Tb_flood_28 rfl (Nat.le_of_ble_eq_true rfl) ⟨by decide, by decide⟩ ⟨Nat.le_of_ble_eq_true rfl, Nat.le_of_ble_eq_true rfl⟩ ?_
        refine z_icmp_ge 71 d_Tb_flood_31 (by decide) (fun c_31 => ?_) (fun c_31 => ?_)
        · skip
          obtain rfl : i = nk := by
            have := (nI_leI (a := nk) (b := i) (by omega) (by omega)).mp c_31
            omega
          refine z_aload_n 2 d_Tb_flood_71 rfl rfl ?_
          refine z_get zc_Tb 2 (by decide) qF_Tb_22 hT2.tb rfl d_Tb_flood_72 ?_
          refine z_iconst (v := 2) d_Tb_flood_75 (by decide) ?_
          refine z_iload_n 3 d_Tb_flood_76 rfl rfl ?_
          refine z_aload_n 2 d_Tb_flood_77 rfl rfl ?_
          refine z_get zc_Tb 6 (by decide) qF_Tb_44 hT2.tb rfl d_Tb_flood_78 ?_
          refine z_callVp0 (m_Re_enterE hs0 hst hT2 _ _ _) ym_Re_enter qM_Tb_137 qI_Re_enter qV_Re_Re_enter zc_Re hT2.re d_Tb_flood_81 rfl (Nat.le_of_ble_eq_true rfl) ⟨by decide, by decide⟩ ⟨Nat.le_of_ble_eq_true rfl, Nat.le_of_ble_eq_true rfl⟩ (fun r_81 G_81 hp_81 => ?_)
          obtain ⟨hr_81, V3, hT3, hK3, hF3⟩ := hp_81
          obtain rfl : r_81 = none := hr_81
          refine z_iload_n 1 d_Tb_flood_84 rfl rfl ?_
          exact z_iret rfl (⟨(zb_n0 _).mp c_6, V2, V3, hT3, hK2, hK3, rfl, hF2.tr hF3⟩) (by first | decide | omega) (by first | decide | omega) d_Tb_flood_85
        · skip
          have hi6 : i < nk := Nat.lt_of_not_le fun q => c_31 (nI_le q (by omega))
          refine z_aload_n 2 d_Tb_flood_34 rfl rfl ?_
          refine z_get zc_Tb 0 (by decide) qF_Tb_10 hT2.tb rfl d_Tb_flood_35 ?_
          refine z_iload_n 0 d_Tb_flood_38 rfl rfl ?_
          refine z_callV0 (m_AL_get hs0 hst (hT2.kA hi6) hi6 (if_pos hi6)) ym_AL_get qM_Tb_166 qI_AL_get qV_AL_AL_get zc_AL (hT2.kA hi6).1 d_Tb_flood_39 rfl (Nat.le_of_ble_eq_true rfl) ⟨by decide, by decide⟩ ⟨Nat.le_of_ble_eq_true rfl, Nat.le_of_ble_eq_true rfl⟩ ?_
          refine z_castS zc_Ke qK_Tb_77 (hT2.ke hi6) d_Tb_flood_42 ?_
          refine z_get zc_Ke 1 (by decide) qF_Tb_170 (hT2.ke hi6) rfl d_Tb_flood_45 ?_
          refine z_iload_n 3 d_Tb_flood_48 rfl rfl ?_
          refine z_icmp_ne 65 d_Tb_flood_49 (by decide) (fun c_49 => ?_) (fun c_49 => ?_)
          · skip
            have hf2 : zfl_ V x i = false := by
              unfold zfl_; rw [← hK2.k hns (k := i) (by omega)]; exact decide_eq_false c_49
            rw [zgone_f hf2]
            refine z_iinc (v := nI (i + 1)) (L' := [(3, _), (2, _), (0, _), (1, _)]) 0 d_Tb_flood_65 rfl (nI_1 i) (by decide) rfl ?_
            refine z_goto 23 d_Tb_flood_68 (by decide) ?_
            first
              | exact ih_23 (i + 1) _ _ (by omega) (by omega) hT3 (hK2.lose hns hf3 hK3) (hF2.tr hF3)
              | exact ih_23 (i + 1) _ _ (by omega) (by omega) hT2 (hK2.skip hf2) hF2
          · skip
            have hf3 : zfl_ V x i = true := by
              unfold zfl_; rw [← hK2.k hns (k := i) (by omega)]; exact decide_eq_true c_49
            refine z_iload_n 1 d_Tb_flood_52 rfl rfl ?_
            refine z_aload_n 2 d_Tb_flood_53 rfl rfl ?_
            refine z_iload_n 0 d_Tb_flood_54 rfl rfl ?_
            refine z_callV0 (m_Tb_sharesOf hs0 hst hT2 (show i < 8 by omega)) ym_Tb_sharesOf qM_Tb_173 qI_Tb_sharesOf qV_Tb_Tb_sharesOf zc_Tb hT2.tb d_Tb_flood_55 rfl (Nat.le_of_ble_eq_true rfl) ⟨by decide, by decide⟩ ⟨Nat.le_of_ble_eq_true rfl, Nat.le_of_ble_eq_true rfl⟩ ?_
            refine z_iadd d_Tb_flood_58 ?_
            refine z_topv (v := zgone V ns x (i + 1)) (by rw [hK2.cnt]; exact zgone_t hf3) ?_
            refine z_istore_n (L' := [(2, _), (3, _), (0, _), (1, _)]) d_Tb_flood_59 rfl (by decide) rfl ?_
            refine z_aload_n 2 d_Tb_flood_60 rfl rfl ?_
            refine z_iload_n 1 d_Tb_flood_61 rfl rfl ?_
            refine z_callVp0 ((m_Tb_loseSharesE hs0 hst hT2 (show i < 8 by omega))) ym_Tb_loseShares qM_Tb_176 qI_Tb_loseShares qV_Tb_Tb_loseShares zc_Tb hT2.tb d_Tb_flood_62 rfl (Nat.le_of_ble_eq_true rfl) ⟨by decide, by decide⟩ ⟨Nat.le_of_ble_eq_true rfl, Nat.le_of_ble_eq_true rfl⟩ (fun r_62 G_62 hp_62 => ?_)
            obtain ⟨hr_62, V3, hT3, hK3, hF3⟩ := hp_62
            obtain rfl : r_62 = none := hr_62
            refine z_iinc (v := nI (i + 1)) (L' := [(3, _), (2, _), (0, _), (1, _)]) 1 d_Tb_flood_65 rfl (nI_1 i) (by decide) rfl ?_
            refine z_goto 23 d_Tb_flood_68 (by decide) ?_
            first
              | exact ih_23 (i + 1) _ _ (by omega) (by omega) hT3 (hK2.lose hns hf3 hK3) (hF2.tr hF3)
              | exact ih_23 (i + 1) _ _ (by omega) (by omega) hT2 (hK2.skip hf2) hF2
    exact key_23 (nk + 1) 0 _ _ (by omega) (by omega) hT zFd.z zFr.rf
  · skip
    exact z_thS (names := ["java/lang/RuntimeException", "java/lang/Exception"]) (by decide) (by decide) qK_Tb_161 qN_IOE qR_Tb_163 th_165.1 th_165.2 d_Tb_flood_9 d_Tb_flood_12 d_Tb_flood_13 d_Tb_flood_15 d_Tb_flood_18 (by decide) (Nat.le_of_ble_eq_true rfl) ⟨by decide, by decide⟩ (⟨⟨(zb_0 _).mp c_6, rfl⟩, D, V, hT, zKo.rf, zFr.rf⟩) (by decide) (by decide)

def zRb (V V' : Nat → Nat → Int32) (nk si ki : Nat) (w x : Int32) (r : Option Value) : Prop := ∃ V4 V5 V6, zDd V V4 nk si w ∧ zgood_ (V4 12 0) (V4 12 1) (V4 12 3) = true ∧
  V5 = rset (rset V4 (300 + si) (upd (V4 (300 + si)) ki (zth (V4 13) (V4 14) (V4 12 2) (nI ki + 1)))) (400 + si) (upd (V4 (400 + si)) ki (V4 (200 + si) 3)) ∧
  V6 = (if zany (fun k => zbt (V5 12 1 >>> ((1 : Int32) &&& 31)) k && decide (V5 (100 + k) 4 ≠ 0)) nk = true then rset V5 (200 + si) (z6 (V5 (200 + si)) (V5 (200 + si) 3) (V5 (200 + si) 4) 1) else V5) ∧
  zEn (rset V6 0 (z4 (V6 0 0) (V6 0 1) (V6 0 2) (V6 0 3 + zbc (V6 12 1) * zbc (V6 12 1)))) V' 3 x (V6 0 0) ∧ r = some (.int (zbc (V6 12 1) * zbc (V6 12 1)))

theorem d_Tb_rebuild_0 : decode c_Tb_rebuild 0 = .ok (.aload_n 0, 1) := by decide +kernel
theorem d_Tb_rebuild_1 : decode c_Tb_rebuild 1 = .ok (.iload_n 1, 1) := by decide +kernel
theorem d_Tb_rebuild_2 : decode c_Tb_rebuild 2 = .ok (.invokevirtual 140, 3) := by decide +kernel
theorem d_Tb_rebuild_5 : decode c_Tb_rebuild 5 = .ok (.astore 4, 2) := by decide +kernel
theorem d_Tb_rebuild_7 : decode c_Tb_rebuild 7 = .ok (.aload_n 0, 1) := by decide +kernel
theorem d_Tb_rebuild_8 : decode c_Tb_rebuild 8 = .ok (.iload_n 2, 1) := by decide +kernel
theorem d_Tb_rebuild_9 : decode c_Tb_rebuild 9 = .ok (.invokevirtual 86, 3) := by decide +kernel
theorem d_Tb_rebuild_12 : decode c_Tb_rebuild 12 = .ok (.pop, 1) := by decide +kernel
theorem d_Tb_rebuild_13 : decode c_Tb_rebuild 13 = .ok (.aload_n 0, 1) := by decide +kernel
theorem d_Tb_rebuild_14 : decode c_Tb_rebuild 14 = .ok (.iload_n 3, 1) := by decide +kernel
theorem d_Tb_rebuild_15 : decode c_Tb_rebuild 15 = .ok (.invokevirtual 101, 3) := by decide +kernel
theorem d_Tb_rebuild_18 : decode c_Tb_rebuild 18 = .ok (.aload 4, 2) := by decide +kernel
theorem d_Tb_rebuild_20 : decode c_Tb_rebuild 20 = .ok (.iload_n 2, 1) := by decide +kernel
theorem d_Tb_rebuild_21 : decode c_Tb_rebuild 21 = .ok (.invokevirtual 179, 3) := by decide +kernel
theorem d_Tb_rebuild_24 : decode c_Tb_rebuild 24 = .ok (.ifCond .eq 13, 3) := by decide +kernel
theorem d_Tb_rebuild_27 : decode c_Tb_rebuild 27 = .ok (.new 72, 3) := by decide +kernel
theorem d_Tb_rebuild_30 : decode c_Tb_rebuild 30 = .ok (.dup, 1) := by decide +kernel
theorem d_Tb_rebuild_31 : decode c_Tb_rebuild 31 = .ok (.ldc 182, 2) := by decide +kernel
theorem d_Tb_rebuild_33 : decode c_Tb_rebuild 33 = .ok (.invokespecial 76, 3) := by decide +kernel
theorem d_Tb_rebuild_36 : decode c_Tb_rebuild 36 = .ok (.athrow, 1) := by decide +kernel
theorem d_Tb_rebuild_37 : decode c_Tb_rebuild 37 = .ok (.aload_n 0, 1) := by decide +kernel
theorem d_Tb_rebuild_38 : decode c_Tb_rebuild 38 = .ok (.aload 4, 2) := by decide +kernel
theorem d_Tb_rebuild_40 : decode c_Tb_rebuild 40 = .ok (.iload_n 3, 1) := by decide +kernel
theorem d_Tb_rebuild_41 : decode c_Tb_rebuild 41 = .ok (.invokevirtual 184, 3) := by decide +kernel
theorem d_Tb_rebuild_44 : decode c_Tb_rebuild 44 = .ok (.aload_n 0, 1) := by decide +kernel
theorem d_Tb_rebuild_45 : decode c_Tb_rebuild 45 = .ok (.getfield 36, 3) := by decide +kernel
theorem d_Tb_rebuild_48 : decode c_Tb_rebuild 48 = .ok (.invokevirtual 188, 3) := by decide +kernel
theorem d_Tb_rebuild_51 : decode c_Tb_rebuild 51 = .ok (.aload_n 0, 1) := by decide +kernel
theorem d_Tb_rebuild_52 : decode c_Tb_rebuild 52 = .ok (.getfield 36, 3) := by decide +kernel
theorem d_Tb_rebuild_55 : decode c_Tb_rebuild 55 = .ok (.invokevirtual 191, 3) := by decide +kernel
theorem d_Tb_rebuild_58 : decode c_Tb_rebuild 58 = .ok (.ifCond .ne 13, 3) := by decide +kernel
theorem d_Tb_rebuild_61 : decode c_Tb_rebuild 61 = .ok (.new 72, 3) := by decide +kernel
theorem d_Tb_rebuild_64 : decode c_Tb_rebuild 64 = .ok (.dup, 1) := by decide +kernel
theorem d_Tb_rebuild_65 : decode c_Tb_rebuild 65 = .ok (.ldc 195, 2) := by decide +kernel
theorem d_Tb_rebuild_67 : decode c_Tb_rebuild 67 = .ok (.invokespecial 76, 3) := by decide +kernel
theorem d_Tb_rebuild_70 : decode c_Tb_rebuild 70 = .ok (.athrow, 1) := by decide +kernel
theorem d_Tb_rebuild_71 : decode c_Tb_rebuild 71 = .ok (.aload 4, 2) := by decide +kernel
theorem d_Tb_rebuild_73 : decode c_Tb_rebuild 73 = .ok (.iload_n 2, 1) := by decide +kernel
theorem d_Tb_rebuild_74 : decode c_Tb_rebuild 74 = .ok (.aload_n 0, 1) := by decide +kernel
theorem d_Tb_rebuild_75 : decode c_Tb_rebuild 75 = .ok (.getfield 36, 3) := by decide +kernel
theorem d_Tb_rebuild_78 : decode c_Tb_rebuild 78 = .ok (.iload_n 2, 1) := by decide +kernel
theorem d_Tb_rebuild_79 : decode c_Tb_rebuild 79 = .ok (.invokestatic 128, 3) := by decide +kernel
theorem d_Tb_rebuild_82 : decode c_Tb_rebuild 82 = .ok (.invokevirtual 197, 3) := by decide +kernel
theorem d_Tb_rebuild_85 : decode c_Tb_rebuild 85 = .ok (.invokevirtual 134, 3) := by decide +kernel
theorem d_Tb_rebuild_88 : decode c_Tb_rebuild 88 = .ok (.aload_n 0, 1) := by decide +kernel
theorem d_Tb_rebuild_89 : decode c_Tb_rebuild 89 = .ok (.aload_n 0, 1) := by decide +kernel
theorem d_Tb_rebuild_90 : decode c_Tb_rebuild 90 = .ok (.getfield 36, 3) := by decide +kernel
theorem d_Tb_rebuild_93 : decode c_Tb_rebuild 93 = .ok (.invokevirtual 200, 3) := by decide +kernel
theorem d_Tb_rebuild_96 : decode c_Tb_rebuild 96 = .ok (.invokevirtual 203, 3) := by decide +kernel
theorem d_Tb_rebuild_99 : decode c_Tb_rebuild 99 = .ok (.ifCond .eq 9, 3) := by decide +kernel
theorem d_Tb_rebuild_102 : decode c_Tb_rebuild 102 = .ok (.aload 4, 2) := by decide +kernel
theorem d_Tb_rebuild_104 : decode c_Tb_rebuild 104 = .ok (.iconst 1, 1) := by decide +kernel
theorem d_Tb_rebuild_105 : decode c_Tb_rebuild 105 = .ok (.putfield 206, 3) := by decide +kernel
theorem d_Tb_rebuild_108 : decode c_Tb_rebuild 108 = .ok (.aload_n 0, 1) := by decide +kernel
theorem d_Tb_rebuild_109 : decode c_Tb_rebuild 109 = .ok (.getfield 36, 3) := by decide +kernel
theorem d_Tb_rebuild_112 : decode c_Tb_rebuild 112 = .ok (.invokevirtual 210, 3) := by decide +kernel
theorem d_Tb_rebuild_115 : decode c_Tb_rebuild 115 = .ok (.aload_n 0, 1) := by decide +kernel
theorem d_Tb_rebuild_116 : decode c_Tb_rebuild 116 = .ok (.getfield 36, 3) := by decide +kernel
theorem d_Tb_rebuild_119 : decode c_Tb_rebuild 119 = .ok (.invokevirtual 210, 3) := by decide +kernel
theorem d_Tb_rebuild_122 : decode c_Tb_rebuild 122 = .ok (.imul, 1) := by decide +kernel
theorem d_Tb_rebuild_123 : decode c_Tb_rebuild 123 = .ok (.istore 5, 2) := by decide +kernel
theorem d_Tb_rebuild_125 : decode c_Tb_rebuild 125 = .ok (.aload_n 0, 1) := by decide +kernel
theorem d_Tb_rebuild_126 : decode c_Tb_rebuild 126 = .ok (.dup, 1) := by decide +kernel
theorem d_Tb_rebuild_127 : decode c_Tb_rebuild 127 = .ok (.getfield 54, 3) := by decide +kernel
theorem d_Tb_rebuild_130 : decode c_Tb_rebuild 130 = .ok (.iload 5, 2) := by decide +kernel
theorem d_Tb_rebuild_132 : decode c_Tb_rebuild 132 = .ok (.iadd, 1) := by decide +kernel
theorem d_Tb_rebuild_133 : decode c_Tb_rebuild 133 = .ok (.putfield 54, 3) := by decide +kernel
theorem d_Tb_rebuild_136 : decode c_Tb_rebuild 136 = .ok (.aload_n 0, 1) := by decide +kernel
theorem d_Tb_rebuild_137 : decode c_Tb_rebuild 137 = .ok (.getfield 22, 3) := by decide +kernel
theorem d_Tb_rebuild_140 : decode c_Tb_rebuild 140 = .ok (.iconst 3, 1) := by decide +kernel
theorem d_Tb_rebuild_141 : decode c_Tb_rebuild 141 = .ok (.iload_n 1, 1) := by decide +kernel
theorem d_Tb_rebuild_142 : decode c_Tb_rebuild 142 = .ok (.aload_n 0, 1) := by decide +kernel
theorem d_Tb_rebuild_143 : decode c_Tb_rebuild 143 = .ok (.getfield 44, 3) := by decide +kernel
theorem d_Tb_rebuild_146 : decode c_Tb_rebuild 146 = .ok (.invokevirtual 137, 3) := by decide +kernel
theorem d_Tb_rebuild_149 : decode c_Tb_rebuild 149 = .ok (.iload 5, 2) := by decide +kernel
theorem d_Tb_rebuild_151 : decode c_Tb_rebuild 151 = .ok (.ireturn, 1) := by decide +kernel
set_option maxHeartbeats 4000000 in
set_option maxRecDepth 100000 in
theorem m_Tb_rebuildE {g0 : State} {d : zD} {l : Launch} {a0 : Array Value} (hs0 : zS0 d a0 g0) (hst : l.stackTraces = false) {G : zG} {A : Nat → Nat} {D : Nat → UInt64} {V : Nat → Nat → Int32} {nk ns : Nat} (hT : zT d A D V nk ns G) (x k w : Int32) : zMet g0 d l y_Tb_rebuild c_Tb_rebuild 6 ((Option.some Jvm.ClassFile.FieldType.int)) 12 4 24 [.ref (A 0), .int x, .int k, .int w] (G) (fun r G1 => ∃ si, si < ns ∧ x = nI si ∧ ∃ ki, ki < nk ∧ k = nI ki ∧ zsetok nk w = true ∧ zcur (V (400 + si)) (V (200 + si) 3) ki = false ∧ ∃ V', zT d A D V' nk ns G1 ∧ zRb V V' nk si ki w x r ∧ tFr A nk ns G G1) (zXo d A nk ns V G (fun E => ((zoo ns x ∨ zoo nk k) ∧ E = "java/lang/IndexOutOfBoundsException") ∨ (∃ si, si < ns ∧ x = nI si ∧ ∃ ki, ki < nk ∧ k = nI ki ∧ ((zsetok nk w = false ∧ E = "java/lang/IllegalArgumentException") ∨ (zsetok nk w = true ∧ (zcur (V (400 + si)) (V (200 + si) 3) ki = true ∨ (zcur (V (400 + si)) (V (200 + si) 3) ki = false ∧ ∃ V4, zDd V V4 nk si w ∧ zgood_ (V4 12 0) (V4 12 1) (V4 12 3) = false)) ∧ E = "java/lang/IllegalStateException"))))) := by
  have hG_Tb := hT.tb
  have hnk : nk ≤ 8 := hT.2.1
  have hns : ns ≤ 6 := hT.2.2.1
  refine z_entry hs0 hst (by decide) (Nat.le_of_ble_eq_true rfl) (fun p e s m args below meth c => ?_)
  refine z_aload_n 0 d_Tb_rebuild_0 rfl rfl ?_
  refine z_iload_n 1 d_Tb_rebuild_1 rfl rfl ?_
  refine z_callV (m_Tb_secretAt hs0 hst hT x) ym_Tb_secretAt qM_Tb_140 qI_Tb_secretAt qV_Tb_Tb_secretAt zc_Tb hG_Tb d_Tb_rebuild_2 rfl (Nat.le_of_ble_eq_true rfl) ⟨by decide, by decide⟩ ⟨Nat.le_of_ble_eq_true rfl, Nat.le_of_ble_eq_true rfl⟩ ?_ ?_
  · exact fun E G9 hx => by
      obtain ⟨hx1, rfl, hx3⟩ := hx
      obtain rfl : G = G9 := hx3.symm
      exact z_out ⟨Or.inl ⟨Or.inl hx1, rfl⟩, D, V, hT, zKo.rf, zFr.rf⟩ (by decide) (by decide)
  intro r_2 G_2 hp_2
  obtain ⟨si, hsi, rfl, rfl, hg_2⟩ := hp_2
  obtain rfl : G = G_2 := hg_2.symm
  refine z_astore (L' := [(4, _), (0, _), (1, _), (2, _), (3, _)]) d_Tb_rebuild_5 (by decide) rfl ?_
  refine z_aload_n 1 d_Tb_rebuild_7 rfl rfl ?_
  refine z_iload_n 3 d_Tb_rebuild_8 rfl rfl ?_
  refine z_callV (m_Tb_keeperAt hs0 hst hT k) ym_Tb_keeperAt qM_Tb_86 qI_Tb_keeperAt qV_Tb_Tb_keeperAt zc_Tb hG_Tb d_Tb_rebuild_9 rfl (Nat.le_of_ble_eq_true rfl) ⟨by decide, by decide⟩ ⟨Nat.le_of_ble_eq_true rfl, Nat.le_of_ble_eq_true rfl⟩ ?_ ?_
  · exact fun E G9 hx => by
      obtain ⟨hx1, rfl, hx3⟩ := hx
      obtain rfl : G = G9 := hx3.symm
      exact z_out ⟨Or.inl ⟨Or.inr hx1, rfl⟩, D, V, hT, zKo.rf, zFr.rf⟩ (by decide) (by decide)
  intro r_9 G_9 hp_9
  obtain ⟨ki, hki, rfl, rfl, hg_9⟩ := hp_9
  obtain rfl : G = G_9 := hg_9.symm
  have hk8 : ki < 8 := by omega
  refine z_pop d_Tb_rebuild_12 rfl ?_
  refine z_aload_n 1 d_Tb_rebuild_13 rfl rfl ?_
  refine z_iload_n 4 d_Tb_rebuild_14 rfl rfl ?_
  refine z_callV (m_Tb_needSet hs0 hst hT w) ym_Tb_needSet qM_Tb_101 qI_Tb_needSet qV_Tb_Tb_needSet zc_Tb hG_Tb d_Tb_rebuild_15 rfl (Nat.le_of_ble_eq_true rfl) ⟨by decide, by decide⟩ ⟨Nat.le_of_ble_eq_true rfl, Nat.le_of_ble_eq_true rfl⟩ ?_ ?_
  · exact fun E G9 hx => by
      obtain ⟨hx1, rfl, hx3⟩ := hx
      obtain rfl : G = G9 := hx3.symm
      exact z_out ⟨Or.inr ⟨si, hsi, rfl, ki, hki, rfl, Or.inl ⟨hx1, rfl⟩⟩, D, V, hT, zKo.rf, zFr.rf⟩ (by decide) (by decide)
  intro r_15 G_15 hp_15
  obtain ⟨hs_15, hr_15, hg_15⟩ := hp_15
  obtain rfl : r_15 = none := hr_15
  obtain rfl : G = G_15 := hg_15.symm
  refine z_aload 0 d_Tb_rebuild_18 rfl ?_
  refine z_iload_n 3 d_Tb_rebuild_20 rfl rfl ?_
  refine z_callV0 (m_Se_isCurrent hs0 hst (hT.se hsi) hk8) ym_Se_isCurrent qM_Tb_179 qI_Se_isCurrent qV_Se_Se_isCurrent zc_Se (hT.se hsi).1 d_Tb_rebuild_21 rfl (Nat.le_of_ble_eq_true rfl) ⟨by decide, by decide⟩ ⟨Nat.le_of_ble_eq_true rfl, Nat.le_of_ble_eq_true rfl⟩ ?_
  refine z_if_eq 37 d_Tb_rebuild_24 (by decide) (fun c_24 => ?_) (fun c_24 => ?_)
  · skip
    refine z_aload_n 1 d_Tb_rebuild_37 rfl rfl ?_
    refine z_aload 0 d_Tb_rebuild_38 rfl ?_
    refine z_iload_n 4 d_Tb_rebuild_40 rfl rfl ?_
    refine z_callVp0 ((m_Tb_gatherGroupE hs0 hst hT hsi w)) ym_Tb_gatherGroup qM_Tb_184 qI_Tb_gatherGroup qV_Tb_Tb_gatherGroup zc_Tb hG_Tb d_Tb_rebuild_41 rfl (Nat.le_of_ble_eq_true rfl) ⟨by decide, by decide⟩ ⟨Nat.le_of_ble_eq_true rfl, Nat.le_of_ble_eq_true rfl⟩ (fun r_41 G_41 hp_41 => ?_)
    obtain ⟨hr_41, V3, hT3, hK3, hF3⟩ := hp_41
    obtain rfl : r_41 = none := hr_41
    obtain ⟨q9, hq9, eq9⟩ := hT3.2.2.2.1
    have hg9 := hT3.gA
    rw [eq9] at hg9
    refine z_aload_n 1 d_Tb_rebuild_44 rfl rfl ?_
    refine z_get zc_Tb 4 (by decide) qF_Tb_36 hT3.tb rfl d_Tb_rebuild_45 ?_
    refine z_callVp0 (m_Gr_decode hs0 hst hg9 hq9) ym_Gr_decode qM_Tb_188 qI_Gr_decode qV_Gr_Gr_decode zc_Gr hT3.gr d_Tb_rebuild_48 rfl (Nat.le_of_ble_eq_true rfl) ⟨by decide, by decide⟩ ⟨Nat.le_of_ble_eq_true rfl, Nat.le_of_ble_eq_true rfl⟩ (fun r_48 G_48 hp_48 => ?_)
    obtain ⟨hr_48, hg_48⟩ := hp_48
    obtain rfl : r_48 = none := hr_48
    obtain ⟨hT4, hF4⟩ := hT3.putgE (V3 12 0) (zdec (V3 13) (V3 14) (V3 12 0) (nI q9) (V3 12 2) (V3 12 3) q9).1 (zdec (V3 13) (V3 14) (V3 12 0) (nI q9) (V3 12 2) (V3 12 3) q9).2 (p := nI q9) ⟨q9, hq9, rfl⟩
    rw [← hg_48] at hT4 hF4
    have hD4 : zDd V _ nk si w := ⟨V3, q9, hq9, hK3, eq9, rfl⟩
    generalize hV4 : rset V3 12 (z4 (V3 12 0) (nI q9) (zdec (V3 13) (V3 14) (V3 12 0) (nI q9) (V3 12 2) (V3 12 3) q9).1 (zdec (V3 13) (V3 14) (V3 12 0) (nI q9) (V3 12 2) (V3 12 3) q9).2) = V4 at hT4 hD4
    refine z_aload_n 1 d_Tb_rebuild_51 rfl rfl ?_
    refine z_get zc_Tb 4 (by decide) qF_Tb_36 hT4.tb rfl d_Tb_rebuild_52 ?_
    refine z_callV0 (m_Gr_isGood hs0 hst hT4.gA) ym_Gr_isGood qM_Tb_191 qI_Gr_isGood qV_Gr_Gr_isGood zc_Gr hT4.gr d_Tb_rebuild_55 rfl (Nat.le_of_ble_eq_true rfl) ⟨by decide, by decide⟩ ⟨Nat.le_of_ble_eq_true rfl, Nat.le_of_ble_eq_true rfl⟩ ?_
    refine z_if_ne 71 d_Tb_rebuild_58 (by decide) (fun c_58 => ?_) (fun c_58 => ?_)
    · skip
      refine z_aload 0 d_Tb_rebuild_71 rfl ?_
      refine z_iload_n 3 d_Tb_rebuild_73 rfl rfl ?_
      refine z_aload_n 1 d_Tb_rebuild_74 rfl rfl ?_
      refine z_get zc_Tb 4 (by decide) qF_Tb_36 hT4.tb rfl d_Tb_rebuild_75 ?_
      refine z_iload_n 3 d_Tb_rebuild_78 rfl rfl ?_
      refine z_callS0 (m_Tb_pointOf hs0 hst (nI ki)) ym_Tb_pointOf qM_Tb_128 qS_Tb_pointOf d_Tb_rebuild_79 rfl (Nat.le_of_ble_eq_true rfl) ⟨by decide, by decide⟩ ⟨Nat.le_of_ble_eq_true rfl, Nat.le_of_ble_eq_true rfl⟩ ?_
      refine z_callV0 (m_Gr_curveAt hs0 hst hT4.gA _) ym_Gr_curveAt qM_Tb_197 qI_Gr_curveAt qV_Gr_Gr_curveAt zc_Gr hT4.gr d_Tb_rebuild_82 rfl (Nat.le_of_ble_eq_true rfl) ⟨by decide, by decide⟩ ⟨Nat.le_of_ble_eq_true rfl, Nat.le_of_ble_eq_true rfl⟩ ?_
      refine z_callVp0 (m_Se_hold hs0 hst _ (hT4.se hsi) hk8) ym_Se_hold qM_Tb_134 qI_Se_hold qV_Se_Se_hold zc_Se (hT4.se hsi).1 d_Tb_rebuild_85 rfl (Nat.le_of_ble_eq_true rfl) ⟨by decide, by decide⟩ ⟨Nat.le_of_ble_eq_true rfl, Nat.le_of_ble_eq_true rfl⟩ (fun r_85 G_85 hp_85 => ?_)
      obtain ⟨hr_85, hg_85⟩ := hp_85
      obtain rfl : r_85 = none := hr_85
      obtain ⟨hT5, hF5⟩ := hT4.secE hsi (upd (V4 (300 + si)) ki (zth (V4 13) (V4 14) (V4 12 2) (nI ki + 1))) (upd (V4 (400 + si)) ki (V4 (200 + si) 3))
      rw [← hg_85] at hT5 hF5
      generalize hV5 : rset (rset V4 (300 + si) (upd (V4 (300 + si)) ki (zth (V4 13) (V4 14) (V4 12 2) (nI ki + 1)))) (400 + si) (upd (V4 (400 + si)) ki (V4 (200 + si) 3)) = V5 at hT5
      refine z_aload_n 1 d_Tb_rebuild_88 rfl rfl ?_
      refine z_aload_n 1 d_Tb_rebuild_89 rfl rfl ?_
      refine z_get zc_Tb 4 (by decide) qF_Tb_36 hT5.tb rfl d_Tb_rebuild_90 ?_
      refine z_callV0 (m_Gr_members hs0 hst hT5.gA) ym_Gr_members qM_Tb_200 qI_Gr_members qV_Gr_Gr_members zc_Gr hT5.gr d_Tb_rebuild_93 rfl (Nat.le_of_ble_eq_true rfl) ⟨by decide, by decide⟩ ⟨Nat.le_of_ble_eq_true rfl, Nat.le_of_ble_eq_true rfl⟩ ?_
      refine z_callV0 ((m_Tb_isAnyLyingE hs0 hst hT5 _)) ym_Tb_isAnyLying qM_Tb_203 qI_Tb_isAnyLying qV_Tb_Tb_isAnyLying zc_Tb hT5.tb d_Tb_rebuild_96 rfl (Nat.le_of_ble_eq_true rfl) ⟨by decide, by decide⟩ ⟨Nat.le_of_ble_eq_true rfl, Nat.le_of_ble_eq_true rfl⟩ ?_
      refine z_if_eq 108 d_Tb_rebuild_99 (by decide) (fun c_99 => ?_) (fun c_99 => ?_)
      · skip
        obtain ⟨V6, eV6⟩ : ∃ V6, V6 = V5 := ⟨_, rfl⟩
        have hT6 := hT5
        have hF6 := hF5
        rw [← eV6] at hT6
        have hV6 : V6 = (if zany (fun k => zbt (V5 12 1 >>> ((1 : Int32) &&& 31)) k && decide (V5 (100 + k) 4 ≠ 0)) nk = true then rset V5 (200 + si) (z6 (V5 (200 + si)) (V5 (200 + si) 3) (V5 (200 + si) 4) 1) else V5) := by rw [eV6, if_neg (by rw [(zb_0 _).mp c_99]; decide)]
        refine z_aload_n 1 d_Tb_rebuild_108 rfl rfl ?_
        refine z_get zc_Tb 4 (by decide) qF_Tb_36 hT6.tb rfl d_Tb_rebuild_109 ?_
        refine z_callV0 (m_Gr_size hs0 hst hT6.gA) ym_Gr_size qM_Tb_210 qI_Gr_size qV_Gr_Gr_size zc_Gr hT6.gr d_Tb_rebuild_112 rfl (Nat.le_of_ble_eq_true rfl) ⟨by decide, by decide⟩ ⟨Nat.le_of_ble_eq_true rfl, Nat.le_of_ble_eq_true rfl⟩ ?_
        refine z_aload_n 1 d_Tb_rebuild_115 rfl rfl ?_
        refine z_get zc_Tb 4 (by decide) qF_Tb_36 hT6.tb rfl d_Tb_rebuild_116 ?_
        refine z_callV0 (m_Gr_size hs0 hst hT6.gA) ym_Gr_size qM_Tb_210 qI_Gr_size qV_Gr_Gr_size zc_Gr hT6.gr d_Tb_rebuild_119 rfl (Nat.le_of_ble_eq_true rfl) ⟨by decide, by decide⟩ ⟨Nat.le_of_ble_eq_true rfl, Nat.le_of_ble_eq_true rfl⟩ ?_
        refine z_imul d_Tb_rebuild_122 ?_
        refine z_istore (L' := [(5, _), (4, _), (0, _), (1, _), (2, _), (3, _)]) d_Tb_rebuild_123 (by decide) rfl ?_
        refine z_aload_n 2 d_Tb_rebuild_125 rfl rfl ?_
        refine z_dup d_Tb_rebuild_126 rfl ?_
        refine z_get zc_Tb 9 (by decide) qF_Tb_54 hT6.tb rfl d_Tb_rebuild_127 ?_
        refine z_iload 0 d_Tb_rebuild_130 rfl ?_
        refine z_iadd d_Tb_rebuild_132 ?_
        refine z_put zc_Tb 9 (by decide) qF_Tb_54 hT6.tb rfl rfl rfl (Nat.le_of_ble_eq_true rfl) d_Tb_rebuild_133 ?_
        obtain ⟨hT7, hF7⟩ := hT6.put0 (V6 0 0) (V6 0 1) (V6 0 2) (V6 0 3 + zbc (V6 12 1) * zbc (V6 12 1))
        refine z_aload_n 2 d_Tb_rebuild_136 rfl rfl ?_
        refine z_get zc_Tb 2 (by decide) qF_Tb_22 hT7.tb rfl d_Tb_rebuild_137 ?_
        refine z_iconst (v := 3) d_Tb_rebuild_140 (by decide) ?_
        refine z_iload_n 3 d_Tb_rebuild_141 rfl rfl ?_
        refine z_aload_n 2 d_Tb_rebuild_142 rfl rfl ?_
        refine z_get zc_Tb 6 (by decide) qF_Tb_44 hT7.tb rfl d_Tb_rebuild_143 ?_
        refine z_callVp0 (m_Re_enterE hs0 hst hT7 _ _ _) ym_Re_enter qM_Tb_137 qI_Re_enter qV_Re_Re_enter zc_Re hT7.re d_Tb_rebuild_146 rfl (Nat.le_of_ble_eq_true rfl) ⟨by decide, by decide⟩ ⟨Nat.le_of_ble_eq_true rfl, Nat.le_of_ble_eq_true rfl⟩ (fun r_146 G_146 hp_146 => ?_)
        obtain ⟨hr_146, V8, hT8, hK8, hF8⟩ := hp_146
        obtain rfl : r_146 = none := hr_146
        refine z_iload 0 d_Tb_rebuild_149 rfl ?_
        exact z_iret rfl (⟨si, hsi, rfl, ki, hki, rfl, hs_15, (zb_0 _).mp c_24, V8, hT8, ⟨V4, V5, V6, hD4, (zb_n0 _).mp c_58, hV5.symm, hV6, hK8, rfl⟩, (((hF3.tr hF4).tr hF6).tr hF7).tr hF8⟩) (by first | decide | omega) (by first | decide | omega) d_Tb_rebuild_151
      · skip
        refine z_aload 0 d_Tb_rebuild_102 rfl ?_
        refine z_iconst (v := 1) d_Tb_rebuild_104 (by decide) ?_
        refine z_put zc_Se 7 (by decide) qF_Tb_206 (hT5.se hsi).1 rfl rfl rfl (Nat.le_of_ble_eq_true rfl) d_Tb_rebuild_105 ?_
        obtain ⟨hT6, hF6⟩ := hT5.puts hsi (V5 (200 + si) 3) (V5 (200 + si) 4) 1
        replace hF6 := hF5.tr hF6
        obtain ⟨V6, eV6⟩ : ∃ v, v = rset V5 (200 + si) (z6 (V5 (200 + si)) (V5 (200 + si) 3) (V5 (200 + si) 4) 1) := ⟨_, rfl⟩
        rw [← eV6] at hT6
        have hV6 : V6 = (if zany (fun k => zbt (V5 12 1 >>> ((1 : Int32) &&& 31)) k && decide (V5 (100 + k) 4 ≠ 0)) nk = true then rset V5 (200 + si) (z6 (V5 (200 + si)) (V5 (200 + si) 3) (V5 (200 + si) 4) 1) else V5) := by rw [if_pos ((zb_n0 _).mp c_99)]; exact eV6
        refine z_aload_n 1 d_Tb_rebuild_108 rfl rfl ?_
        refine z_get zc_Tb 4 (by decide) qF_Tb_36 hT6.tb rfl d_Tb_rebuild_109 ?_
        refine z_callV0 (m_Gr_size hs0 hst hT6.gA) ym_Gr_size qM_Tb_210 qI_Gr_size qV_Gr_Gr_size zc_Gr hT6.gr d_Tb_rebuild_112 rfl (Nat.le_of_ble_eq_true rfl) ⟨by decide, by decide⟩ ⟨Nat.le_of_ble_eq_true rfl, Nat.le_of_ble_eq_true rfl⟩ ?_
        refine z_aload_n 1 d_Tb_rebuild_115 rfl rfl ?_
        refine z_get zc_Tb 4 (by decide) qF_Tb_36 hT6.tb rfl d_Tb_rebuild_116 ?_
        refine z_callV0 (m_Gr_size hs0 hst hT6.gA) ym_Gr_size qM_Tb_210 qI_Gr_size qV_Gr_Gr_size zc_Gr hT6.gr d_Tb_rebuild_119 rfl (Nat.le_of_ble_eq_true rfl) ⟨by decide, by decide⟩ ⟨Nat.le_of_ble_eq_true rfl, Nat.le_of_ble_eq_true rfl⟩ ?_
        refine z_imul d_Tb_rebuild_122 ?_
        refine z_istore (L' := [(5, _), (4, _), (0, _), (1, _), (2, _), (3, _)]) d_Tb_rebuild_123 (by decide) rfl ?_
        refine z_aload_n 2 d_Tb_rebuild_125 rfl rfl ?_
        refine z_dup d_Tb_rebuild_126 rfl ?_
        refine z_get zc_Tb 9 (by decide) qF_Tb_54 hT6.tb rfl d_Tb_rebuild_127 ?_
        refine z_iload 0 d_Tb_rebuild_130 rfl ?_
        refine z_iadd d_Tb_rebuild_132 ?_
        refine z_put zc_Tb 9 (by decide) qF_Tb_54 hT6.tb rfl rfl rfl (Nat.le_of_ble_eq_true rfl) d_Tb_rebuild_133 ?_
        obtain ⟨hT7, hF7⟩ := hT6.put0 (V6 0 0) (V6 0 1) (V6 0 2) (V6 0 3 + zbc (V6 12 1) * zbc (V6 12 1))
        refine z_aload_n 2 d_Tb_rebuild_136 rfl rfl ?_
        refine z_get zc_Tb 2 (by decide) qF_Tb_22 hT7.tb rfl d_Tb_rebuild_137 ?_
        refine z_iconst (v := 3) d_Tb_rebuild_140 (by decide) ?_
        refine z_iload_n 3 d_Tb_rebuild_141 rfl rfl ?_
        refine z_aload_n 2 d_Tb_rebuild_142 rfl rfl ?_
        refine z_get zc_Tb 6 (by decide) qF_Tb_44 hT7.tb rfl d_Tb_rebuild_143 ?_
        refine z_callVp0 (m_Re_enterE hs0 hst hT7 _ _ _) ym_Re_enter qM_Tb_137 qI_Re_enter qV_Re_Re_enter zc_Re hT7.re d_Tb_rebuild_146 rfl (Nat.le_of_ble_eq_true rfl) ⟨by decide, by decide⟩ ⟨Nat.le_of_ble_eq_true rfl, Nat.le_of_ble_eq_true rfl⟩ (fun r_146 G_146 hp_146 => ?_)
        obtain ⟨hr_146, V8, hT8, hK8, hF8⟩ := hp_146
        obtain rfl : r_146 = none := hr_146
        refine z_iload 0 d_Tb_rebuild_149 rfl ?_
        exact z_iret rfl (⟨si, hsi, rfl, ki, hki, rfl, hs_15, (zb_0 _).mp c_24, V8, hT8, ⟨V4, V5, V6, hD4, (zb_n0 _).mp c_58, hV5.symm, hV6, hK8, rfl⟩, (((hF3.tr hF4).tr hF6).tr hF7).tr hF8⟩) (by first | decide | omega) (by first | decide | omega) d_Tb_rebuild_151
    · skip
      exact z_thS (names := ["java/lang/RuntimeException", "java/lang/Exception"]) (by decide) (by decide) qK_Tb_72 qN_ISE qR_Tb_195 th_76.1 th_76.2 d_Tb_rebuild_61 d_Tb_rebuild_64 d_Tb_rebuild_65 d_Tb_rebuild_67 d_Tb_rebuild_70 (by decide) (Nat.le_of_ble_eq_true rfl) ⟨by decide, by decide⟩ (⟨Or.inr ⟨si, hsi, rfl, ki, hki, rfl, Or.inr ⟨hs_15, Or.inr ⟨(zb_0 _).mp c_24, V4, hD4, (zb_0 _).mp c_58⟩, rfl⟩⟩, D, V4, hT4, hD4.k, hF3.tr hF4⟩) (by decide) (by decide)
  · skip
    exact z_thS (names := ["java/lang/RuntimeException", "java/lang/Exception"]) (by decide) (by decide) qK_Tb_72 qN_ISE qR_Tb_182 th_76.1 th_76.2 d_Tb_rebuild_27 d_Tb_rebuild_30 d_Tb_rebuild_31 d_Tb_rebuild_33 d_Tb_rebuild_36 (by decide) (Nat.le_of_ble_eq_true rfl) ⟨by decide, by decide⟩ (⟨Or.inr ⟨si, hsi, rfl, ki, hki, rfl, Or.inr ⟨hs_15, Or.inl ((zb_n0 _).mp c_24), rfl⟩⟩, D, V, hT, zKo.rf, zFr.rf⟩) (by decide) (by decide)
