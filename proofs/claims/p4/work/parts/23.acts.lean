
theorem zMet.imp {g0 : State} {d : zD} {l : Launch} {y : MethodName} {cc : ByteArray} {nL : Nat} {ret : Option FieldType} {f mc ms : Nat} {av : List Value} {G : zG} {post post' : Option Value → zG → Prop} {px px' : String → zG → Prop} (h : zMet g0 d l y cc nL ret f mc ms av G post px) (h1 : ∀ r G1, post r G1 → post' r G1) (h2 : ∀ E G1, px E G1 → px' E G1) : zMet g0 d l y cc nL ret f mc ms av G post' px' := by
  refine MetFree.imp h (fun a st o t hq => ?_)
  rcases hq with ⟨⟨⟨r, G1, e1, e2, e3⟩, hF⟩, hL⟩ | ⟨q, e1, hT⟩
  · exact Or.inl ⟨⟨⟨r, G1, e1, h1 _ _ e2, e3⟩, hF⟩, hL⟩
  · obtain ⟨E, ce, L, ⟨⟨G1, k1, k7⟩, k8⟩, k2⟩ := hT
    exact Or.inr ⟨q, e1, E, ce, L, ⟨⟨G1, h2 _ _ k1, k7⟩, k8⟩, k2⟩
/-- four numbers -/
def z4 (a b c e : Int32) : Nat → Int32 | 0 => a | 1 => b | 2 => c | _ => e
section ZTP
variable {d : zD} {A : Nat → Nat} {D : Nat → UInt64} {V : Nat → Nat → Int32} {nk ns : Nat} {G G1 : zG}
abbrev zth0 (A : Nat → Nat) (a b c e : Int32) : va_E := zob 8 [.ref (A 1), .ref (A 3), .ref (A 5), .ref (A 10), .ref (A 12), .ref (A 15), .int a, .int b, .int c, .int e]
theorem zT.put0 (h : zT d A D V nk ns G) (a b c e : Int32) : zT d A D (rset V 0 (z4 a b c e)) nk ns (zu G (A 0) (zth0 A a b c e)) ∧ tFr A nk ns G (zu G (A 0) (zth0 A a b c e)) :=
  ⟨h.put (tl_s 0) (z4 a b c e) rfl rfl (h.2.off (by decide) (by decide) (by decide)), zT.frput (tl_s 0) rfl⟩
theorem zKo.z4 {b c e : Int32} : zKo V (rset V 0 (z4 (V 0 0) b c e)) := zKo.set fun j hj => by
  have : j = 0 := by unfold zob_ at hj; omega
  subst this; rfl
/-- .. with the day kept -/
theorem zT.put0k (h : zT d A D V nk ns G) (b c e : Int32) : ∃ V', zT d A D V' nk ns (zu G (A 0) (zth0 A (V 0 0) b c e)) ∧ zKo V V' ∧ tFr A nk ns G (zu G (A 0) (zth0 A (V 0 0) b c e)) := ⟨_, (h.put0 _ b c e).1, zKo.z4, (h.put0 _ b c e).2⟩
theorem tInv.kee {k : Nat} {v : Nat → Int32} (h : tInv V nk ns) (hv : v 0 = V (100 + k) 0) (hk : k < 100) : tInv (rset V (100 + k) v) nk ns := by
  obtain ⟨a, b, c, e, f, g⟩ := h
  refine ⟨a, b, by rw [rset_n (by omega)]; exact c, by rw [rset_n (by omega)]; exact e, fun i hi => by rw [rset_n (by omega)]; exact f i hi, fun q hq => ?_⟩
  by_cases ek : q = k
  · subst ek; rw [rset_s, hv]; exact g q hq
  · rw [rset_n (by omega)]; exact g q hq
theorem tInv.secr {k : Nat} {v : Nat → Int32} (h : tInv V nk ns) (hv : v 0 = V (200 + k) 0) (hk : k < 100) : tInv (rset V (200 + k) v) nk ns := by
  obtain ⟨a, b, c, e, f, g⟩ := h
  refine ⟨a, b, by rw [rset_n (by omega)]; exact c, by rw [rset_n (by omega)]; exact e, fun q hq => ?_, fun i hi => by rw [rset_n (by omega)]; exact g i hi⟩
  by_cases ek : q = k
  · subst ek; rw [rset_s, hv]; exact f q hq
  · rw [rset_n (by omega)]; exact f q hq
theorem tInv.reg {v : Nat → Int32} (h : tInv V nk ns) (hv : ∃ c, c ≤ 64 ∧ v 0 = nI c) : tInv (rset V 5 v) nk ns := by
  obtain ⟨a, b, c, e, f, g⟩ := h
  exact ⟨a, b, by rw [rset_n (by omega)]; exact c, by rw [rset_s]; exact hv, fun q hq => by rw [rset_n (by omega)]; exact f q hq, fun i hi => by rw [rset_n (by omega)]; exact g i hi⟩
/-- a secret's last numbers are written: epoch, frozen, byLiars -/
abbrev zths (A : Nat → Nat) (V : Nat → Nat → Int32) (i : Nat) (a b c : Int32) : va_E := zob 7 [.int (V (200 + i) 0), .int (V (200 + i) 1), .int (V (200 + i) 2), .ref (A (300 + i)), .ref (A (400 + i)), .int a, .int b, .int c]
def z6 (f : Nat → Int32) (a b c : Int32) : Nat → Int32 | 0 => f 0 | 1 => f 1 | 2 => f 2 | 3 => a | 4 => b | 5 => c | _ => 0
theorem zT.puts (h : zT d A D V nk ns G) {i : Nat} (hi : i < ns) (a b c : Int32) : zT d A D (rset V (200 + i) (z6 (V (200 + i)) a b c)) nk ns (zu G (A (200 + i)) (zths A V i a b c)) ∧ tFr A nk ns G (zu G (A (200 + i)) (zths A V i a b c)) := by
  have hn : ns ≤ 6 := h.2.2.1
  exact ⟨h.put (tlive_i hi) (z6 (V (200 + i)) a b c) rfl (tcell_i (i := i) (d := d) (A := A) (D := D) (nk := nk) (ns := ns) (by omega) (z6 (V (200 + i)) a b c)).symm (h.2.secr rfl (by omega)), zT.frput (tlive_i hi) rfl⟩
theorem zT.putsk (h : zT d A D V nk ns G) {i : Nat} (hi : i < ns) (a c : Int32) : ∃ V', zT d A D V' nk ns (zu G (A (200 + i)) (zths A V i a (V (200 + i) 4) c)) ∧ zKo V V' ∧ tFr A nk ns G (zu G (A (200 + i)) (zths A V i a (V (200 + i) 4) c)) :=
  ⟨_, (h.puts hi a _ c).1, zKo.set (fun j hj => by
    have : j = 0 ∨ j = 1 ∨ j = 2 ∨ j = 4 := by have hn : ns ≤ 6 := h.2.2.1; unfold zob_ at hj; omega
    rcases this with rfl | rfl | rfl | rfl <;> rfl), (h.puts hi a _ c).2⟩
end ZTP
/-- an entry, or none if there are 64 -/
theorem m_Re_enterT {g0 : State} {d : zD} {l : Launch} {a0 : Array Value} (hs0 : zS0 d a0 g0) (hst : l.stackTraces = false) {A : Nat → Nat} {D : Nat → UInt64} {V : Nat → Nat → Int32} {nk ns : Nat} {G : zG} (hT : zT d A D V nk ns G) (kind subj dy : Int32) : zMet g0 d l y_Re_enter c_Re_enter 6 none 3 0 0 [.ref (A 5), .int kind, .int subj, .int dy] G (zTu d A nk ns V G zrN) zNo := by
  obtain ⟨c, hc, e, hR⟩ := hT.rN
  by_cases h64 : c = 64
  · subst h64
    exact zMet.imp (m_Re_enter_o hs0 hst hR kind subj dy) (fun r G1 h => by obtain ⟨rfl, rfl⟩ := h; exact ⟨rfl, D, V, hT, zKo.rf, zFr.rf⟩) (fun _ _ h => h)
  · refine zMet.imp (m_Re_enter hs0 hst hR (by omega) kind subj dy) (fun r G1 h => ?_) (fun _ _ h => h)
    obtain ⟨rfl, rfl⟩ := h
    have h1 := hT.put (tl_s 6) (upd (V 6) c kind) rfl rfl (hT.2.off (by decide) (by decide) (by decide))
    have h2 := h1.put (tl_s 7) (upd (V 7) c subj) rfl rfl (h1.2.off (by decide) (by decide) (by decide))
    have h3 := h2.put (tl_s 8) (upd (V 8) c dy) rfl rfl (h2.2.off (by decide) (by decide) (by decide))
    have h4 := fun v => h3.put (tl_s 9) v rfl rfl (h3.2.off (by decide) (by decide) (by decide))
    have h5 := fun v => (h4 v).put (tl_s 5) (fun _ => nI (c + 1)) rfl rfl ((h4 v).2.reg ⟨c + 1, by omega, rfl⟩)
    refine ⟨rfl, D, _, h5 _, ((((zKo.off (by decide)).tr (zKo.off (by decide))).tr (zKo.off (by decide))).tr (zKo.off (by decide))).tr (zKo.off (by decide)), ((((zT.frput (tl_s 6) rfl).tr (zT.frput (tl_s 7) rfl)).tr (zT.frput (tl_s 8) rfl)).tr (zT.frput (tl_s 9) rfl)).tr (zT.frput (tl_s 5) rfl)⟩

theorem d_Tb_knock_0 : decode c_Tb_knock 0 = .ok (.aload_n 0, 1) := by decide +kernel
theorem d_Tb_knock_1 : decode c_Tb_knock 1 = .ok (.dup, 1) := by decide +kernel
theorem d_Tb_knock_2 : decode c_Tb_knock 2 = .ok (.getfield 48, 3) := by decide +kernel
theorem d_Tb_knock_5 : decode c_Tb_knock 5 = .ok (.iconst 1, 1) := by decide +kernel
theorem d_Tb_knock_6 : decode c_Tb_knock 6 = .ok (.iadd, 1) := by decide +kernel
theorem d_Tb_knock_7 : decode c_Tb_knock 7 = .ok (.putfield 48, 3) := by decide +kernel
theorem d_Tb_knock_10 : decode c_Tb_knock 10 = .ok (.aload_n 0, 1) := by decide +kernel
theorem d_Tb_knock_11 : decode c_Tb_knock 11 = .ok (.getfield 48, 3) := by decide +kernel
theorem d_Tb_knock_14 : decode c_Tb_knock 14 = .ok (.ireturn, 1) := by decide +kernel
set_option maxHeartbeats 4000000 in
set_option maxRecDepth 100000 in
theorem m_Tb_knock {g0 : State} {d : zD} {l : Launch} {a0 : Array Value} (hs0 : zS0 d a0 g0) (hst : l.stackTraces = false) {G : zG} {A : Nat → Nat} {D : Nat → UInt64} {V : Nat → Nat → Int32} {nk ns : Nat} (hT : zT d A D V nk ns G) : zMet g0 d l y_Tb_knock c_Tb_knock 1 ((Option.some Jvm.ClassFile.FieldType.int)) 1 0 0 [.ref (A 0)] (G) (zTu d A nk ns V G zrI) (zNo) := by
  have hG_Tb := hT.tb
  have hnk : nk ≤ 8 := hT.2.1
  have hns : ns ≤ 6 := hT.2.2.1
  refine z_entry hs0 hst (by decide) (Nat.le_of_ble_eq_true rfl) (fun p e s m args below meth c => ?_)
  refine z_aload_n 0 d_Tb_knock_0 rfl rfl ?_
  refine z_dup d_Tb_knock_1 rfl ?_
  refine z_get zc_Tb 7 (by decide) qF_Tb_48 hG_Tb rfl d_Tb_knock_2 ?_
  refine z_iconst (v := 1) d_Tb_knock_5 (by decide) ?_
  refine z_iadd d_Tb_knock_6 ?_
  refine z_put zc_Tb 7 (by decide) qF_Tb_48 hG_Tb rfl rfl rfl (Nat.le_of_ble_eq_true rfl) d_Tb_knock_7 ?_
  obtain ⟨V1, hT1, hK1, hF1⟩ := hT.put0k (V 0 1 + 1) (V 0 2) (V 0 3)
  have hG_Tb := hT1.tb
  refine z_aload_n 0 d_Tb_knock_10 rfl rfl ?_
  refine z_get zc_Tb 7 (by decide) qF_Tb_48 zu_s rfl d_Tb_knock_11 ?_
  exact z_iret rfl (⟨⟨_, rfl⟩, D, V1, hT1, hK1, hF1⟩) (by first | decide | omega) (by first | decide | omega) d_Tb_knock_14
theorem d_Tb_pass_0 : decode c_Tb_pass 0 = .ok (.iload_n 1, 1) := by decide +kernel
theorem d_Tb_pass_1 : decode c_Tb_pass 1 = .ok (.iconst 1, 1) := by decide +kernel
theorem d_Tb_pass_2 : decode c_Tb_pass 2 = .ok (.sipush 365, 3) := by decide +kernel
theorem d_Tb_pass_5 : decode c_Tb_pass 5 = .ok (.invokestatic 57, 3) := by decide +kernel
theorem d_Tb_pass_8 : decode c_Tb_pass 8 = .ok (.ifCond .ne 13, 3) := by decide +kernel
theorem d_Tb_pass_11 : decode c_Tb_pass 11 = .ok (.new 61, 3) := by decide +kernel
theorem d_Tb_pass_14 : decode c_Tb_pass 14 = .ok (.dup, 1) := by decide +kernel
theorem d_Tb_pass_15 : decode c_Tb_pass 15 = .ok (.ldc 216, 2) := by decide +kernel
theorem d_Tb_pass_17 : decode c_Tb_pass 17 = .ok (.invokespecial 65, 3) := by decide +kernel
theorem d_Tb_pass_20 : decode c_Tb_pass 20 = .ok (.athrow, 1) := by decide +kernel
theorem d_Tb_pass_21 : decode c_Tb_pass 21 = .ok (.aload_n 0, 1) := by decide +kernel
theorem d_Tb_pass_22 : decode c_Tb_pass 22 = .ok (.getfield 44, 3) := by decide +kernel
theorem d_Tb_pass_25 : decode c_Tb_pass 25 = .ok (.iload_n 1, 1) := by decide +kernel
theorem d_Tb_pass_26 : decode c_Tb_pass 26 = .ok (.iadd, 1) := by decide +kernel
theorem d_Tb_pass_27 : decode c_Tb_pass 27 = .ok (.sipush 999, 3) := by decide +kernel
theorem d_Tb_pass_30 : decode c_Tb_pass 30 = .ok (.if_icmp .le 13, 3) := by decide +kernel
theorem d_Tb_pass_33 : decode c_Tb_pass 33 = .ok (.new 72, 3) := by decide +kernel
theorem d_Tb_pass_36 : decode c_Tb_pass 36 = .ok (.dup, 1) := by decide +kernel
theorem d_Tb_pass_37 : decode c_Tb_pass 37 = .ok (.ldc 218, 2) := by decide +kernel
theorem d_Tb_pass_39 : decode c_Tb_pass 39 = .ok (.invokespecial 76, 3) := by decide +kernel
theorem d_Tb_pass_42 : decode c_Tb_pass 42 = .ok (.athrow, 1) := by decide +kernel
theorem d_Tb_pass_43 : decode c_Tb_pass 43 = .ok (.aload_n 0, 1) := by decide +kernel
theorem d_Tb_pass_44 : decode c_Tb_pass 44 = .ok (.dup, 1) := by decide +kernel
theorem d_Tb_pass_45 : decode c_Tb_pass 45 = .ok (.getfield 44, 3) := by decide +kernel
theorem d_Tb_pass_48 : decode c_Tb_pass 48 = .ok (.iload_n 1, 1) := by decide +kernel
theorem d_Tb_pass_49 : decode c_Tb_pass 49 = .ok (.iadd, 1) := by decide +kernel
theorem d_Tb_pass_50 : decode c_Tb_pass 50 = .ok (.putfield 44, 3) := by decide +kernel
theorem d_Tb_pass_53 : decode c_Tb_pass 53 = .ok (.aload_n 0, 1) := by decide +kernel
theorem d_Tb_pass_54 : decode c_Tb_pass 54 = .ok (.getfield 44, 3) := by decide +kernel
theorem d_Tb_pass_57 : decode c_Tb_pass 57 = .ok (.ireturn, 1) := by decide +kernel
set_option maxHeartbeats 4000000 in
set_option maxRecDepth 100000 in
theorem m_Tb_pass {g0 : State} {d : zD} {l : Launch} {a0 : Array Value} (hs0 : zS0 d a0 g0) (hst : l.stackTraces = false) {G : zG} {A : Nat → Nat} {D : Nat → UInt64} {V : Nat → Nat → Int32} {nk ns : Nat} (hT : zT d A D V nk ns G) (x : Int32) : zMet g0 d l y_Tb_pass c_Tb_pass 2 ((Option.some Jvm.ClassFile.FieldType.int)) 8 1 6 [.ref (A 0), .int x] (G) (fun r G1 => zin x 1 365 = true ∧ ¬ 999 < V 0 0 + x ∧ r = some (.int (V 0 0 + x)) ∧ zT d A D (rset V 0 (z4 (V 0 0 + x) (V 0 1) (V 0 2) (V 0 3))) nk ns G1 ∧ tFr A nk ns G G1) (fun E G1 => G1 = G ∧ ((zin x 1 365 = false ∧ E = "java/lang/IllegalArgumentException") ∨ (zin x 1 365 = true ∧ 999 < V 0 0 + x ∧ E = "java/lang/IllegalStateException"))) := by
  have hG_Tb := hT.tb
  have hnk : nk ≤ 8 := hT.2.1
  have hns : ns ≤ 6 := hT.2.2.1
  refine z_entry hs0 hst (by decide) (Nat.le_of_ble_eq_true rfl) (fun p e s m args below meth c => ?_)
  refine z_iload_n 1 d_Tb_pass_0 rfl rfl ?_
  refine z_iconst (v := 1) d_Tb_pass_1 (by decide) ?_
  refine z_sipush (v := 365) d_Tb_pass_2 (by decide) ?_
  refine z_callS0 (m_Tb_isFrom hs0 hst x 1 _) ym_Tb_isFrom qM_Tb_57 qS_Tb_isFrom d_Tb_pass_5 rfl (Nat.le_of_ble_eq_true rfl) ⟨by decide, by decide⟩ ⟨Nat.le_of_ble_eq_true rfl, Nat.le_of_ble_eq_true rfl⟩ ?_
  refine z_if_ne 21 d_Tb_pass_8 (by decide) (fun c_8 => ?_) (fun c_8 => ?_)
  · skip
    refine z_aload_n 0 d_Tb_pass_21 rfl rfl ?_
    refine z_get zc_Tb 6 (by decide) qF_Tb_44 hG_Tb rfl d_Tb_pass_22 ?_
    refine z_iload_n 1 d_Tb_pass_25 rfl rfl ?_
    refine z_iadd d_Tb_pass_26 ?_
    refine z_sipush (v := 999) d_Tb_pass_27 (by decide) ?_
    refine z_icmp_le 43 d_Tb_pass_30 (by decide) (fun c_30 => ?_) (fun c_30 => ?_)
    · skip
      refine z_aload_n 0 d_Tb_pass_43 rfl rfl ?_
      refine z_dup d_Tb_pass_44 rfl ?_
      refine z_get zc_Tb 6 (by decide) qF_Tb_44 hG_Tb rfl d_Tb_pass_45 ?_
      refine z_iload_n 1 d_Tb_pass_48 rfl rfl ?_
      refine z_iadd d_Tb_pass_49 ?_
      refine z_put zc_Tb 6 (by decide) qF_Tb_44 hG_Tb rfl rfl rfl (Nat.le_of_ble_eq_true rfl) d_Tb_pass_50 ?_
      refine z_aload_n 0 d_Tb_pass_53 rfl rfl ?_
      refine z_get zc_Tb 6 (by decide) qF_Tb_44 zu_s rfl d_Tb_pass_54 ?_
      exact z_iret rfl (⟨(zb_n0 _).mp c_8, Int32.not_lt.mpr c_30, rfl, (hT.put0 _ _ _ _).1, (hT.put0 _ _ _ _).2⟩) (by first | decide | omega) (by first | decide | omega) d_Tb_pass_57
    · skip
      exact z_thS (names := ["java/lang/RuntimeException", "java/lang/Exception"]) (by decide) (by decide) qK_Tb_72 qN_ISE qR_Tb_218 th_76.1 th_76.2 d_Tb_pass_33 d_Tb_pass_36 d_Tb_pass_37 d_Tb_pass_39 d_Tb_pass_42 (by decide) (Nat.le_of_ble_eq_true rfl) ⟨by decide, by decide⟩ (⟨rfl, Or.inr ⟨(zb_n0 _).mp c_8, Int32.not_le.mp c_30, rfl⟩⟩) (by decide) (by decide)
  · skip
    exact z_thS (names := ["java/lang/RuntimeException", "java/lang/Exception"]) (by decide) (by decide) qK_Tb_61 qN_IAE qR_Tb_216 th_65.1 th_65.2 d_Tb_pass_11 d_Tb_pass_14 d_Tb_pass_15 d_Tb_pass_17 d_Tb_pass_20 (by decide) (Nat.le_of_ble_eq_true rfl) ⟨by decide, by decide⟩ (⟨rfl, Or.inl ⟨(zb_0 _).mp c_8, rfl⟩⟩) (by decide) (by decide)
theorem d_Tb_lie_0 : decode c_Tb_lie 0 = .ok (.aload_n 0, 1) := by decide +kernel
theorem d_Tb_lie_1 : decode c_Tb_lie 1 = .ok (.iload_n 1, 1) := by decide +kernel
theorem d_Tb_lie_2 : decode c_Tb_lie 2 = .ok (.invokevirtual 86, 3) := by decide +kernel
theorem d_Tb_lie_5 : decode c_Tb_lie 5 = .ok (.astore_n 3, 1) := by decide +kernel
theorem d_Tb_lie_6 : decode c_Tb_lie 6 = .ok (.iload_n 2, 1) := by decide +kernel
theorem d_Tb_lie_7 : decode c_Tb_lie 7 = .ok (.invokestatic 90, 3) := by decide +kernel
theorem d_Tb_lie_10 : decode c_Tb_lie 10 = .ok (.ifCond .ne 13, 3) := by decide +kernel
theorem d_Tb_lie_13 : decode c_Tb_lie 13 = .ok (.new 61, 3) := by decide +kernel
theorem d_Tb_lie_16 : decode c_Tb_lie 16 = .ok (.dup, 1) := by decide +kernel
theorem d_Tb_lie_17 : decode c_Tb_lie 17 = .ok (.ldc 94, 2) := by decide +kernel
theorem d_Tb_lie_19 : decode c_Tb_lie 19 = .ok (.invokespecial 65, 3) := by decide +kernel
theorem d_Tb_lie_22 : decode c_Tb_lie 22 = .ok (.athrow, 1) := by decide +kernel
theorem d_Tb_lie_23 : decode c_Tb_lie 23 = .ok (.aload_n 3, 1) := by decide +kernel
theorem d_Tb_lie_24 : decode c_Tb_lie 24 = .ok (.getfield 96, 3) := by decide +kernel
theorem d_Tb_lie_27 : decode c_Tb_lie 27 = .ok (.istore 4, 2) := by decide +kernel
theorem d_Tb_lie_29 : decode c_Tb_lie 29 = .ok (.aload_n 3, 1) := by decide +kernel
theorem d_Tb_lie_30 : decode c_Tb_lie 30 = .ok (.iload_n 2, 1) := by decide +kernel
theorem d_Tb_lie_31 : decode c_Tb_lie 31 = .ok (.putfield 96, 3) := by decide +kernel
theorem d_Tb_lie_34 : decode c_Tb_lie 34 = .ok (.iload 4, 2) := by decide +kernel
theorem d_Tb_lie_36 : decode c_Tb_lie 36 = .ok (.ireturn, 1) := by decide +kernel
set_option maxHeartbeats 4000000 in
set_option maxRecDepth 100000 in
theorem m_Tb_lie {g0 : State} {d : zD} {l : Launch} {a0 : Array Value} (hs0 : zS0 d a0 g0) (hst : l.stackTraces = false) {G : zG} {A : Nat → Nat} {D : Nat → UInt64} {V : Nat → Nat → Int32} {nk ns : Nat} (hT : zT d A D V nk ns G) (x w : Int32) : zMet g0 d l y_Tb_lie c_Tb_lie 5 ((Option.some Jvm.ClassFile.FieldType.int)) 12 2 12 [.ref (A 0), .int x, .int w] (G) (fun r G1 => ∃ k, k < nk ∧ x = nI k ∧ zin w 0 96 = true ∧ r = some (.int (V (100 + k) 4)) ∧ zT d A D (rset V (100 + k) (upd (V (100 + k)) 4 w)) nk ns G1 ∧ tFr A nk ns G G1) (fun E G1 => G1 = G ∧ (((x < 0 ∨ nI nk ≤ x) ∧ E = "java/lang/IndexOutOfBoundsException") ∨ (zin w 0 96 = false ∧ (∃ k, k < nk ∧ x = nI k) ∧ E = "java/lang/IllegalArgumentException"))) := by
  have hG_Tb := hT.tb
  have hnk : nk ≤ 8 := hT.2.1
  have hns : ns ≤ 6 := hT.2.2.1
  refine z_entry hs0 hst (by decide) (Nat.le_of_ble_eq_true rfl) (fun p e s m args below meth c => ?_)
  refine z_aload_n 0 d_Tb_lie_0 rfl rfl ?_
  refine z_iload_n 1 d_Tb_lie_1 rfl rfl ?_
  refine z_callV (m_Tb_keeperAt hs0 hst hT x) ym_Tb_keeperAt qM_Tb_86 qI_Tb_keeperAt qV_Tb_Tb_keeperAt zc_Tb hG_Tb d_Tb_lie_2 rfl (Nat.le_of_ble_eq_true rfl) ⟨by decide, by decide⟩ ⟨Nat.le_of_ble_eq_true rfl, Nat.le_of_ble_eq_true rfl⟩ ?_ ?_
  · exact fun E G9 hx => z_out ⟨hx.2.2, Or.inl ⟨hx.1, hx.2.1⟩⟩ (by decide) (by decide)
  intro r_2 G_2 hp_2
  obtain ⟨ki, hki, rfl, rfl, hg_2⟩ := hp_2
  obtain rfl : G = G_2 := hg_2.symm
  refine z_astore_n (L' := [(3, _), (0, _), (1, _), (2, _)]) d_Tb_lie_5 rfl (by decide) rfl ?_
  refine z_iload_n 3 d_Tb_lie_6 rfl rfl ?_
  refine z_callS0 (m_Tb_isNumber hs0 hst w) ym_Tb_isNumber qM_Tb_90 qS_Tb_isNumber d_Tb_lie_7 rfl (Nat.le_of_ble_eq_true rfl) ⟨by decide, by decide⟩ ⟨Nat.le_of_ble_eq_true rfl, Nat.le_of_ble_eq_true rfl⟩ ?_
  refine z_if_ne 23 d_Tb_lie_10 (by decide) (fun c_10 => ?_) (fun c_10 => ?_)
  · skip
    refine z_aload_n 0 d_Tb_lie_23 rfl rfl ?_
    refine z_get zc_Ke 4 (by decide) qF_Tb_96 (hT.ke hki) rfl d_Tb_lie_24 ?_
    refine z_istore (L' := [(4, _), (3, _), (0, _), (1, _), (2, _)]) d_Tb_lie_27 (by decide) rfl ?_
    refine z_aload_n 1 d_Tb_lie_29 rfl rfl ?_
    refine z_iload_n 4 d_Tb_lie_30 rfl rfl ?_
    refine z_put zc_Ke 4 (by decide) qF_Tb_96 (hT.ke hki) rfl rfl rfl (Nat.le_of_ble_eq_true rfl) d_Tb_lie_31 ?_
    refine z_iload 0 d_Tb_lie_34 rfl ?_
    exact z_iret rfl (⟨ki, hki, rfl, (zb_n0 _).mp c_10, rfl, hT.put (tlive_k hki) (upd (V (100 + ki)) 4 w) rfl (tcell_k (k := ki) (d := d) (A := A) (D := D) (nk := nk) (ns := ns) (show ki < 8 by omega) (upd (V (100 + ki)) 4 w)).symm (hT.2.kee rfl (by omega)), zT.frput (tlive_k hki) rfl⟩) (by first | decide | omega) (by first | decide | omega) d_Tb_lie_36
  · skip
    exact z_thS (names := ["java/lang/RuntimeException", "java/lang/Exception"]) (by decide) (by decide) qK_Tb_61 qN_IAE qR_Tb_94 th_65.1 th_65.2 d_Tb_lie_13 d_Tb_lie_16 d_Tb_lie_17 d_Tb_lie_19 d_Tb_lie_22 (by decide) (Nat.le_of_ble_eq_true rfl) ⟨by decide, by decide⟩ (⟨rfl, Or.inr ⟨(zb_0 _).mp c_10, ⟨ki, hki, rfl⟩, rfl⟩⟩) (by decide) (by decide)
theorem d_Tb_freeze_0 : decode c_Tb_freeze 0 = .ok (.iload_n 1, 1) := by decide +kernel
theorem d_Tb_freeze_1 : decode c_Tb_freeze 1 = .ok (.iconst 0, 1) := by decide +kernel
theorem d_Tb_freeze_2 : decode c_Tb_freeze 2 = .ok (.iconst 1, 1) := by decide +kernel
theorem d_Tb_freeze_3 : decode c_Tb_freeze 3 = .ok (.invokestatic 57, 3) := by decide +kernel
theorem d_Tb_freeze_6 : decode c_Tb_freeze 6 = .ok (.ifCond .ne 13, 3) := by decide +kernel
theorem d_Tb_freeze_9 : decode c_Tb_freeze 9 = .ok (.new 161, 3) := by decide +kernel
theorem d_Tb_freeze_12 : decode c_Tb_freeze 12 = .ok (.dup, 1) := by decide +kernel
theorem d_Tb_freeze_13 : decode c_Tb_freeze 13 = .ok (.ldc 211, 2) := by decide +kernel
theorem d_Tb_freeze_15 : decode c_Tb_freeze 15 = .ok (.invokespecial 165, 3) := by decide +kernel
theorem d_Tb_freeze_18 : decode c_Tb_freeze 18 = .ok (.athrow, 1) := by decide +kernel
theorem d_Tb_freeze_19 : decode c_Tb_freeze 19 = .ok (.aload_n 0, 1) := by decide +kernel
theorem d_Tb_freeze_20 : decode c_Tb_freeze 20 = .ok (.iload_n 2, 1) := by decide +kernel
theorem d_Tb_freeze_21 : decode c_Tb_freeze 21 = .ok (.invokevirtual 140, 3) := by decide +kernel
theorem d_Tb_freeze_24 : decode c_Tb_freeze 24 = .ok (.astore 4, 2) := by decide +kernel
theorem d_Tb_freeze_26 : decode c_Tb_freeze 26 = .ok (.iconst 1, 1) := by decide +kernel
theorem d_Tb_freeze_27 : decode c_Tb_freeze 27 = .ok (.iload_n 1, 1) := by decide +kernel
theorem d_Tb_freeze_28 : decode c_Tb_freeze 28 = .ok (.ishl, 1) := by decide +kernel
theorem d_Tb_freeze_29 : decode c_Tb_freeze 29 = .ok (.istore 5, 2) := by decide +kernel
theorem d_Tb_freeze_31 : decode c_Tb_freeze 31 = .ok (.aload 4, 2) := by decide +kernel
theorem d_Tb_freeze_33 : decode c_Tb_freeze 33 = .ok (.iload_n 3, 1) := by decide +kernel
theorem d_Tb_freeze_34 : decode c_Tb_freeze 34 = .ok (.ifCond .eq 14, 3) := by decide +kernel
theorem d_Tb_freeze_37 : decode c_Tb_freeze 37 = .ok (.aload 4, 2) := by decide +kernel
theorem d_Tb_freeze_39 : decode c_Tb_freeze 39 = .ok (.getfield 213, 3) := by decide +kernel
theorem d_Tb_freeze_42 : decode c_Tb_freeze 42 = .ok (.iload 5, 2) := by decide +kernel
theorem d_Tb_freeze_44 : decode c_Tb_freeze 44 = .ok (.ior, 1) := by decide +kernel
theorem d_Tb_freeze_45 : decode c_Tb_freeze 45 = .ok (.goto 13, 3) := by decide +kernel
theorem d_Tb_freeze_48 : decode c_Tb_freeze 48 = .ok (.aload 4, 2) := by decide +kernel
theorem d_Tb_freeze_50 : decode c_Tb_freeze 50 = .ok (.getfield 213, 3) := by decide +kernel
theorem d_Tb_freeze_53 : decode c_Tb_freeze 53 = .ok (.iload 5, 2) := by decide +kernel
theorem d_Tb_freeze_55 : decode c_Tb_freeze 55 = .ok (.iconst (-1), 1) := by decide +kernel
theorem d_Tb_freeze_56 : decode c_Tb_freeze 56 = .ok (.ixor, 1) := by decide +kernel
theorem d_Tb_freeze_57 : decode c_Tb_freeze 57 = .ok (.iand, 1) := by decide +kernel
theorem d_Tb_freeze_58 : decode c_Tb_freeze 58 = .ok (.putfield 213, 3) := by decide +kernel
theorem d_Tb_freeze_61 : decode c_Tb_freeze 61 = .ok (.aload 4, 2) := by decide +kernel
theorem d_Tb_freeze_63 : decode c_Tb_freeze 63 = .ok (.getfield 213, 3) := by decide +kernel
theorem d_Tb_freeze_66 : decode c_Tb_freeze 66 = .ok (.invokestatic 105, 3) := by decide +kernel
theorem d_Tb_freeze_69 : decode c_Tb_freeze 69 = .ok (.ireturn, 1) := by decide +kernel
set_option maxHeartbeats 4000000 in
set_option maxRecDepth 100000 in
theorem m_Tb_freeze {g0 : State} {d : zD} {l : Launch} {a0 : Array Value} (hs0 : zS0 d a0 g0) (hst : l.stackTraces = false) {G : zG} {A : Nat → Nat} {D : Nat → UInt64} {V : Nat → Nat → Int32} {nk ns : Nat} (hT : zT d A D V nk ns G) (x w x3 : Int32) : zMet g0 d l y_Tb_freeze c_Tb_freeze 6 ((Option.some Jvm.ClassFile.FieldType.int)) 12 1 6 [.ref (A 0), .int x, .int w, .int x3] (G) (fun r G1 => ∃ k, k < ns ∧ w = nI k ∧ zin x 0 1 = true ∧ r = some (.int (zbc (if x3 = 0 then V (200 + k) 4 &&& ((1 <<< (x &&& 31)) ^^^ (-1)) else V (200 + k) 4 ||| (1 <<< (x &&& 31))))) ∧ zT d A D (rset V (200 + k) (z6 (V (200 + k)) (V (200 + k) 3) (if x3 = 0 then V (200 + k) 4 &&& ((1 <<< (x &&& 31)) ^^^ (-1)) else V (200 + k) 4 ||| (1 <<< (x &&& 31))) (V (200 + k) 5))) nk ns G1 ∧ tFr A nk ns G G1) (fun E G1 => G1 = G ∧ (zin x 0 1 = false ∨ w < 0 ∨ nI ns ≤ w) ∧ E = "java/lang/IndexOutOfBoundsException") := by
  have hG_Tb := hT.tb
  have hnk : nk ≤ 8 := hT.2.1
  have hns : ns ≤ 6 := hT.2.2.1
  refine z_entry hs0 hst (by decide) (Nat.le_of_ble_eq_true rfl) (fun p e s m args below meth c => ?_)
  refine z_iload_n 1 d_Tb_freeze_0 rfl rfl ?_
  refine z_iconst (v := 0) d_Tb_freeze_1 (by decide) ?_
  refine z_iconst (v := 1) d_Tb_freeze_2 (by decide) ?_
  refine z_callS0 (m_Tb_isFrom hs0 hst x 0 _) ym_Tb_isFrom qM_Tb_57 qS_Tb_isFrom d_Tb_freeze_3 rfl (Nat.le_of_ble_eq_true rfl) ⟨by decide, by decide⟩ ⟨Nat.le_of_ble_eq_true rfl, Nat.le_of_ble_eq_true rfl⟩ ?_
  refine z_if_ne 19 d_Tb_freeze_6 (by decide) (fun c_6 => ?_) (fun c_6 => ?_)
  · skip
    refine z_aload_n 0 d_Tb_freeze_19 rfl rfl ?_
    refine z_iload_n 2 d_Tb_freeze_20 rfl rfl ?_
    refine z_callV (m_Tb_secretAt hs0 hst hT w) ym_Tb_secretAt qM_Tb_140 qI_Tb_secretAt qV_Tb_Tb_secretAt zc_Tb hG_Tb d_Tb_freeze_21 rfl (Nat.le_of_ble_eq_true rfl) ⟨by decide, by decide⟩ ⟨Nat.le_of_ble_eq_true rfl, Nat.le_of_ble_eq_true rfl⟩ ?_ ?_
    · exact fun E G9 hx => z_out ⟨hx.2.2, Or.inr hx.1, hx.2.1⟩ (by decide) (by decide)
    intro r_21 G_21 hp_21
    obtain ⟨si, hsi, rfl, rfl, hg_21⟩ := hp_21
    obtain rfl : G = G_21 := hg_21.symm
    refine z_astore (L' := [(4, _), (0, _), (1, _), (2, _), (3, _)]) d_Tb_freeze_24 (by decide) rfl ?_
    refine z_iconst (v := 1) d_Tb_freeze_26 (by decide) ?_
    refine z_iload_n 2 d_Tb_freeze_27 rfl rfl ?_
    refine z_ishl d_Tb_freeze_28 ?_
    refine z_istore (L' := [(5, _), (4, _), (0, _), (1, _), (2, _), (3, _)]) d_Tb_freeze_29 (by decide) rfl ?_
    refine z_aload 1 d_Tb_freeze_31 rfl ?_
    refine z_iload_n 5 d_Tb_freeze_33 rfl rfl ?_
    refine z_if_eq 48 d_Tb_freeze_34 (by decide) (fun c_34 => ?_) (fun c_34 => ?_)
    · skip
      refine z_aload 1 d_Tb_freeze_48 rfl ?_
      refine z_get zc_Se 6 (by decide) qF_Tb_213 (by first | exact zu_s | exact (hT.se hsi).1) rfl d_Tb_freeze_50 ?_
      refine z_iload 0 d_Tb_freeze_53 rfl ?_
      refine z_iconst (v := (-1)) d_Tb_freeze_55 (by decide) ?_
      refine z_ixor d_Tb_freeze_56 ?_
      refine z_iand d_Tb_freeze_57 ?_
      refine z_put zc_Se 6 (by decide) qF_Tb_213 (by first | exact zu_s | exact (hT.se hsi).1) rfl rfl rfl (Nat.le_of_ble_eq_true rfl) d_Tb_freeze_58 ?_
      refine z_aload 1 d_Tb_freeze_61 rfl ?_
      refine z_get zc_Se 6 (by decide) qF_Tb_213 (by first | exact zu_s | exact (hT.se hsi).1) rfl d_Tb_freeze_63 ?_
      refine z_callS0 (m_In_bitCount hs0 hst _) ym_In_bitCount qM_Tb_105 qS_In_bitCount d_Tb_freeze_66 rfl (Nat.le_of_ble_eq_true rfl) ⟨by decide, by decide⟩ ⟨Nat.le_of_ble_eq_true rfl, Nat.le_of_ble_eq_true rfl⟩ ?_
      exact z_iret rfl (⟨si, hsi, rfl, (zb_n0 _).mp c_6, by first | rw [if_pos c_34] | rw [if_neg c_34], by first | rw [if_pos c_34]; exact (hT.puts hsi _ _ _).1 | rw [if_neg c_34]; exact (hT.puts hsi _ _ _).1, (hT.puts hsi _ _ _).2⟩) (by first | decide | omega) (by first | decide | omega) d_Tb_freeze_69
    · skip
      refine z_aload 1 d_Tb_freeze_37 rfl ?_
      refine z_get zc_Se 6 (by decide) qF_Tb_213 (by first | exact zu_s | exact (hT.se hsi).1) rfl d_Tb_freeze_39 ?_
      refine z_iload 0 d_Tb_freeze_42 rfl ?_
      refine z_ior d_Tb_freeze_44 ?_
      refine z_goto 58 d_Tb_freeze_45 (by decide) ?_
      refine z_put zc_Se 6 (by decide) qF_Tb_213 (by first | exact zu_s | exact (hT.se hsi).1) rfl rfl rfl (Nat.le_of_ble_eq_true rfl) d_Tb_freeze_58 ?_
      refine z_aload 1 d_Tb_freeze_61 rfl ?_
      refine z_get zc_Se 6 (by decide) qF_Tb_213 (by first | exact zu_s | exact (hT.se hsi).1) rfl d_Tb_freeze_63 ?_
      refine z_callS0 (m_In_bitCount hs0 hst _) ym_In_bitCount qM_Tb_105 qS_In_bitCount d_Tb_freeze_66 rfl (Nat.le_of_ble_eq_true rfl) ⟨by decide, by decide⟩ ⟨Nat.le_of_ble_eq_true rfl, Nat.le_of_ble_eq_true rfl⟩ ?_
      exact z_iret rfl (⟨si, hsi, rfl, (zb_n0 _).mp c_6, by first | rw [if_pos c_34] | rw [if_neg c_34], by first | rw [if_pos c_34]; exact (hT.puts hsi _ _ _).1 | rw [if_neg c_34]; exact (hT.puts hsi _ _ _).1, (hT.puts hsi _ _ _).2⟩) (by first | decide | omega) (by first | decide | omega) d_Tb_freeze_69
  · skip
    exact z_thS (names := ["java/lang/RuntimeException", "java/lang/Exception"]) (by decide) (by decide) qK_Tb_161 qN_IOE qR_Tb_211 th_165.1 th_165.2 d_Tb_freeze_9 d_Tb_freeze_12 d_Tb_freeze_13 d_Tb_freeze_15 d_Tb_freeze_18 (by decide) (Nat.le_of_ble_eq_true rfl) ⟨by decide, by decide⟩ (⟨rfl, Or.inl ((zb_0 _).mp c_6), rfl⟩) (by decide) (by decide)
