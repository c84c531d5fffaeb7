
section ZLAW
variable {g0 : State} {d : zD} {y : MethodName} {cc : ByteArray} {nL : Nat} {ret : Option FieldType} {tb : List ExceptionTableEntry} {p : Program} {l : Launch} {e : Env} {R : Room} {s : State} {m : MethodId} {args : Array Value} {below : List Frame} {meth : Method} {c : Code} {Q : State → Prop} {cells slots : Nat} {G : zG} {L : List (Nat × Value)} {st : List Value} {pc : Nat}
theorem z_sld {b N : Nat} {xs : Nat → Int32} (hX : va_X b N xs g0 g0.heap) (hbl : b < g0.heap.size) {i : Int32} (hin : vp_in i N) (hd : decode cc pc = .ok (.iaload, 1)) (kk : Z g0 d y cc nL ret tb p l e R s m args below meth c Q cells slots G L (.int (xs i.toNatClampNeg) :: st) (pc + 1)) : Z g0 d y cc nL ret tb p l e R s m args below meth c Q cells slots G L (.int i :: .ref b :: st) pc := by
  intro hc H locs ls hP hS hl
  have hb1 : b < s.heap.size := Nat.lt_of_lt_of_le hbl hc.old.1
  exact va_sld (A := zA g0) (H0 := s.heap) hc.x hc.b (va_X.kept (va_X.moved hc.warm.alike hX) (hc.old.2 b hbl)) hb1 (Nat.not_le.mpr hbl) hS hin hd (kk hc H locs ls hP hS hl)
theorem z_slen {b N : Nat} {xs : Nat → Int32} (hX : va_X b N xs g0 g0.heap) (hbl : b < g0.heap.size) (hd : decode cc pc = .ok (.arraylength, 1)) (kk : Z g0 d y cc nL ret tb p l e R s m args below meth c Q cells slots G L (.int (nI N) :: st) (pc + 1)) : Z g0 d y cc nL ret tb p l e R s m args below meth c Q cells slots G L (.ref b :: st) pc := by
  intro hc H locs ls hP hS hl
  have hb1 : b < s.heap.size := Nat.lt_of_lt_of_le hbl hc.old.1
  exact va_slen (A := zA g0) (H0 := s.heap) hc.x hc.b (va_X.kept (va_X.moved hc.warm.alike hX) (hc.old.2 b hbl)) hb1 (Nat.not_le.mpr hbl) hS hd (kk hc H locs ls hP hS hl)
end ZLAW
theorem nI_of0 {x : Int32} (h : 0 ≤ x) : x = nI x.toNatClampNeg := by
  have h2 : 0 ≤ x.toInt := Int32.le_iff_toInt_le.mp h
  have h3 : x.toInt < 2 ^ 31 := x.toInt_lt
  have h4 : x.toNatClampNeg = x.toInt.toNat := rfl
  refine Int32.toInt_inj.mp ?_
  rw [nI_toInt (by omega), h4]
  omega
theorem zand_pos (v : Int32) : 0 ≤ v &&& 2147483647 := by
  rw [Int32.le_iff_toInt_le]
  show (0 : Int) ≤ (v.toBitVec &&& 2147483647#32).toInt
  rw [BitVec.toInt_eq_msb_cond, BitVec.msb_and, show (2147483647#32 : BitVec 32).msb = false by decide, Bool.and_false, if_neg (by decide)]
  omega
def zbel (v : Int32) (m : Nat) : Nat := (v &&& 2147483647).toNatClampNeg % m
theorem zbel_lt {v : Int32} {m : Nat} (h : 0 < m) : zbel v m < m := Nat.mod_lt _ h
theorem zbel_eq {v : Int32} {m : Nat} (h : 0 < m) (h2 : m < 2 ^ 31) : (v &&& 2147483647) - (v &&& 2147483647) / nI m * nI m = nI (zbel v m) := by
  have h3 := nI_of0 (zand_pos v)
  have h4 : (v &&& 2147483647).toNatClampNeg < 2 ^ 31 := by
    have h3 : (v &&& 2147483647).toInt < 2 ^ 31 := (v &&& 2147483647).toInt_lt
    show (v &&& 2147483647).toInt.toNat < 2 ^ 31
    omega
  unfold zbel
  rw [h3, nI_clamp h4]
  exact pk_rem h4 h h2
def zcel (NN : Nat) (xs : Nat → Int32) (k : Nat) : Int32 := if k < NN then xs k else 790386105 * nI (k + 3)
/-- a number drawn -/
def zdw (NN : Nat) (xs : Nat → Int32) (k m : Nat) : Nat := zbel ((zcel NN xs (k % 24) >>> (nI (k / 24 % 8) &&& 31)) + 541 * nI k) m
theorem zdw_lt {NN : Nat} {xs : Nat → Int32} {k m : Nat} (h : 0 < m) : zdw NN xs k m < m := zbel_lt h

theorem d_La_below_0 : decode c_La_below 0 = .ok (.iload_n 0, 1) := by decide +kernel
theorem d_La_below_1 : decode c_La_below 1 = .ok (.ldc 7, 2) := by decide +kernel
theorem d_La_below_3 : decode c_La_below 3 = .ok (.iand, 1) := by decide +kernel
theorem d_La_below_4 : decode c_La_below 4 = .ok (.iload_n 1, 1) := by decide +kernel
theorem d_La_below_5 : decode c_La_below 5 = .ok (.irem, 1) := by decide +kernel
theorem d_La_below_6 : decode c_La_below 6 = .ok (.ireturn, 1) := by decide +kernel
set_option maxHeartbeats 4000000 in
set_option maxRecDepth 100000 in
theorem m_La_below {g0 : State} {d : zD} {l : Launch} {a0 : Array Value} (hs0 : zS0 d a0 g0) (hst : l.stackTraces = false) {G : zG} {v : Int32} {n : Nat} (hn : 0 < n) (hn2 : n < 2 ^ 31) : zMet g0 d l y_La_below c_La_below 2 ((Option.some Jvm.ClassFile.FieldType.int)) 1 0 0 [.int v, .int (nI n)] (G) (zEq (some (.int (nI (zbel v n)))) G) (zNo) := by
  refine z_entry hs0 hst (by decide) (Nat.le_of_ble_eq_true rfl) (fun p e s m args below meth c => ?_)
  refine z_iload_n 0 d_La_below_0 rfl rfl ?_
  refine z_ldc qX_La_7 d_La_below_1 ?_
  refine z_iand d_La_below_3 ?_
  refine z_iload_n 1 d_La_below_4 rfl rfl ?_
  refine z_irem d_La_below_5 (fun q => absurd ((nI_z hn2).mp q) (by omega)) ?_
  refine z_topv (zbel_eq hn hn2) ?_
  exact z_iret rfl (⟨rfl, rfl⟩) (by first | decide | omega) (by first | decide | omega) d_La_below_6
theorem d_La_cell_0 : decode c_La_cell 0 = .ok (.iload_n 1, 1) := by decide +kernel
theorem d_La_cell_1 : decode c_La_cell 1 = .ok (.aload_n 0, 1) := by decide +kernel
theorem d_La_cell_2 : decode c_La_cell 2 = .ok (.arraylength, 1) := by decide +kernel
theorem d_La_cell_3 : decode c_La_cell 3 = .ok (.if_icmp .ge 9, 3) := by decide +kernel
theorem d_La_cell_6 : decode c_La_cell 6 = .ok (.aload_n 0, 1) := by decide +kernel
theorem d_La_cell_7 : decode c_La_cell 7 = .ok (.iload_n 1, 1) := by decide +kernel
theorem d_La_cell_8 : decode c_La_cell 8 = .ok (.iaload, 1) := by decide +kernel
theorem d_La_cell_9 : decode c_La_cell 9 = .ok (.goto 9, 3) := by decide +kernel
theorem d_La_cell_12 : decode c_La_cell 12 = .ok (.ldc 8, 2) := by decide +kernel
theorem d_La_cell_14 : decode c_La_cell 14 = .ok (.iload_n 1, 1) := by decide +kernel
theorem d_La_cell_15 : decode c_La_cell 15 = .ok (.iconst 3, 1) := by decide +kernel
theorem d_La_cell_16 : decode c_La_cell 16 = .ok (.iadd, 1) := by decide +kernel
theorem d_La_cell_17 : decode c_La_cell 17 = .ok (.imul, 1) := by decide +kernel
theorem d_La_cell_18 : decode c_La_cell 18 = .ok (.ireturn, 1) := by decide +kernel
set_option maxHeartbeats 4000000 in
set_option maxRecDepth 100000 in
theorem m_La_cell {g0 : State} {d : zD} {l : Launch} {a0 : Array Value} (hs0 : zS0 d a0 g0) (hst : l.stackTraces = false) {G : zG} {b NN : Nat} {xs : Nat → Int32} (hX : va_X b NN xs g0 g0.heap) (hbl : b < g0.heap.size) (hNN : NN ≤ 260) {k : Nat} (hk : k < 100) : zMet g0 d l y_La_cell c_La_cell 2 ((Option.some Jvm.ClassFile.FieldType.int)) 1 0 0 [.ref b, .int (nI k)] (G) (zEq (some (.int (zcel NN xs k))) G) (zNo) := by
  refine z_entry hs0 hst (by decide) (Nat.le_of_ble_eq_true rfl) (fun p e s m args below meth c => ?_)
  refine z_iload_n 1 d_La_cell_0 rfl rfl ?_
  refine z_aload_n 0 d_La_cell_1 rfl rfl ?_
  refine z_slen hX hbl d_La_cell_2 ?_
  refine z_icmp_ge 12 d_La_cell_3 (by decide) (fun c_3 => ?_) (fun c_3 => ?_)
  · skip
    have hge : NN ≤ k := (nI_leI (a := NN) (b := k) (by omega) (by omega)).mp c_3
    refine z_ldc qX_La_8 d_La_cell_12 ?_
    refine z_iload_n 1 d_La_cell_14 rfl rfl ?_
    refine z_iconst (v := 3) d_La_cell_15 (by decide) ?_
    refine z_iadd d_La_cell_16 ?_
    refine z_topv (v := nI (k + 3)) (nI_add _ _) ?_
    refine z_imul d_La_cell_17 ?_
    refine z_topv (v := zcel NN xs k) (if_neg (by omega)).symm ?_
    exact z_iret rfl (⟨rfl, rfl⟩) (by first | decide | omega) (by first | decide | omega) d_La_cell_18
  · skip
    have hlt : k < NN := by
      by_cases q : k < NN
      · exact q
      · exact absurd ((nI_leI (a := NN) (b := k) (by omega) (by omega)).mpr (by omega)) c_3
    refine z_aload_n 0 d_La_cell_6 rfl rfl ?_
    refine z_iload_n 1 d_La_cell_7 rfl rfl ?_
    refine z_sld hX hbl (vp_in_nI hlt (by omega)) d_La_cell_8 ?_
    refine z_topv (v := zcel NN xs k) (by rw [nI_clamp (by omega)]; exact (if_pos hlt).symm) ?_
    refine z_goto 18 d_La_cell_9 (by decide) ?_
    exact z_iret rfl (⟨rfl, rfl⟩) (by first | decide | omega) (by first | decide | omega) d_La_cell_18
theorem d_La_drawn_0 : decode c_La_drawn 0 = .ok (.aload_n 0, 1) := by decide +kernel
theorem d_La_drawn_1 : decode c_La_drawn 1 = .ok (.iload_n 1, 1) := by decide +kernel
theorem d_La_drawn_2 : decode c_La_drawn 2 = .ok (.bipush 24, 2) := by decide +kernel
theorem d_La_drawn_4 : decode c_La_drawn 4 = .ok (.irem, 1) := by decide +kernel
theorem d_La_drawn_5 : decode c_La_drawn 5 = .ok (.invokestatic 9, 3) := by decide +kernel
theorem d_La_drawn_8 : decode c_La_drawn 8 = .ok (.iload_n 1, 1) := by decide +kernel
theorem d_La_drawn_9 : decode c_La_drawn 9 = .ok (.bipush 24, 2) := by decide +kernel
theorem d_La_drawn_11 : decode c_La_drawn 11 = .ok (.idiv, 1) := by decide +kernel
theorem d_La_drawn_12 : decode c_La_drawn 12 = .ok (.bipush 8, 2) := by decide +kernel
theorem d_La_drawn_14 : decode c_La_drawn 14 = .ok (.irem, 1) := by decide +kernel
theorem d_La_drawn_15 : decode c_La_drawn 15 = .ok (.ishr, 1) := by decide +kernel
theorem d_La_drawn_16 : decode c_La_drawn 16 = .ok (.sipush 541, 3) := by decide +kernel
theorem d_La_drawn_19 : decode c_La_drawn 19 = .ok (.iload_n 1, 1) := by decide +kernel
theorem d_La_drawn_20 : decode c_La_drawn 20 = .ok (.imul, 1) := by decide +kernel
theorem d_La_drawn_21 : decode c_La_drawn 21 = .ok (.iadd, 1) := by decide +kernel
theorem d_La_drawn_22 : decode c_La_drawn 22 = .ok (.iload_n 2, 1) := by decide +kernel
theorem d_La_drawn_23 : decode c_La_drawn 23 = .ok (.invokestatic 15, 3) := by decide +kernel
theorem d_La_drawn_26 : decode c_La_drawn 26 = .ok (.ireturn, 1) := by decide +kernel
set_option maxHeartbeats 4000000 in
set_option maxRecDepth 100000 in
theorem m_La_drawn {g0 : State} {d : zD} {l : Launch} {a0 : Array Value} (hs0 : zS0 d a0 g0) (hst : l.stackTraces = false) {G : zG} {b NN : Nat} {xs : Nat → Int32} (hX : va_X b NN xs g0 g0.heap) (hbl : b < g0.heap.size) (hNN : NN ≤ 260) {k n : Nat} (hk : k < 2 ^ 20) (hn : 0 < n) (hn2 : n < 2 ^ 31) : zMet g0 d l y_La_drawn c_La_drawn 3 ((Option.some Jvm.ClassFile.FieldType.int)) 2 0 0 [.ref b, .int (nI k), .int (nI n)] (G) (zEq (some (.int (nI (zdw NN xs k n)))) G) (zNo) := by
  refine z_entry hs0 hst (by decide) (Nat.le_of_ble_eq_true rfl) (fun p e s m args below meth c => ?_)
  refine z_aload_n 0 d_La_drawn_0 rfl rfl ?_
  refine z_iload_n 1 d_La_drawn_1 rfl rfl ?_
  refine z_bipush (v := (nI 24)) d_La_drawn_2 (by decide) ?_
  refine z_irem d_La_drawn_4 (by decide) ?_
  refine z_topv (v := nI (k % 24)) (pk_rem (by omega) (by decide) (by decide)) ?_
  refine z_callS0 (m_La_cell hs0 hst hX hbl hNN (show k % 24 < 100 by omega)) ym_La_cell qM_La_9 qS_La_cell d_La_drawn_5 rfl (Nat.le_of_ble_eq_true rfl) ⟨Nat.zero_le _, Nat.zero_le _⟩ ⟨Nat.le_of_ble_eq_true rfl, Nat.le_of_ble_eq_true rfl⟩ ?_
  refine z_iload_n 1 d_La_drawn_8 rfl rfl ?_
  refine z_bipush (v := (nI 24)) d_La_drawn_9 (by decide) ?_
  refine z_idiv d_La_drawn_11 (by decide) ?_
  refine z_topv (v := nI (k / 24)) (pk_div (by omega) (by decide) (by decide)) ?_
  refine z_bipush (v := (nI 8)) d_La_drawn_12 (by decide) ?_
  refine z_irem d_La_drawn_14 (by decide) ?_
  refine z_topv (v := nI (k / 24 % 8)) (pk_rem (by omega) (by decide) (by decide)) ?_
  refine z_ishr d_La_drawn_15 ?_
  refine z_sipush (v := 541) d_La_drawn_16 (by decide) ?_
  refine z_iload_n 1 d_La_drawn_19 rfl rfl ?_
  refine z_imul d_La_drawn_20 ?_
  refine z_iadd d_La_drawn_21 ?_
  refine z_iload_n 2 d_La_drawn_22 rfl rfl ?_
  refine z_callS0 (m_La_below hs0 hst hn hn2) ym_La_below qM_La_15 qS_La_below d_La_drawn_23 rfl (Nat.le_of_ble_eq_true rfl) ⟨Nat.zero_le _, Nat.zero_le _⟩ ⟨Nat.le_of_ble_eq_true rfl, Nat.le_of_ble_eq_true rfl⟩ ?_
  exact z_iret rfl (⟨rfl, rfl⟩) (by first | decide | omega) (by first | decide | omega) d_La_drawn_26

/-! two banks -/
theorem zNw.rf {A : Nat → Nat} {nk ns : Nat} {G : zG} : zNw A A nk ns nk ns G := ⟨rfl, fun r hr => Or.inl ⟨r, hr, rfl⟩⟩
def zQ (d : zD) (A : Nat → Nat) (D : Nat → UInt64) (V : Nat → Nat → Int32) (nk ns : Nat) (B : Nat → Nat) (E : Nat → UInt64) (U : Nat → Nat → Int32) (mk ms : Nat) (G : zG) : Prop := zT d A D V nk ns G ∧ zT d B E U mk ms G ∧ ∀ r q, tlive nk ns r → tlive mk ms q → A r ≠ B q
section ZQQ
variable {d : zD} {A A' : Nat → Nat} {D D' : Nat → UInt64} {V V' : Nat → Nat → Int32} {nk ns nk' ns' : Nat} {B : Nat → Nat} {E : Nat → UInt64} {U : Nat → Nat → Int32} {mk ms : Nat} {G G1 : zG}
theorem zQ.t (h : zQ d A D V nk ns B E U mk ms G) : zT d A D V nk ns G := h.1
theorem zQ.sw (h : zQ d A D V nk ns B E U mk ms G) : zQ d B E U mk ms A D V nk ns G := ⟨h.2.1, h.1, fun r q hr hq e => h.2.2 q r hq hr e.symm⟩
theorem zQ.act (h : zQ d A D V nk ns B E U mk ms G) (hT : zT d A' D' V' nk' ns' G1) (hN : zNw A A' nk ns nk' ns' G) (hF : tFr A nk ns G G1) : zQ d A' D' V' nk' ns' B E U mk ms G1 := by
  obtain ⟨h1, h2, h3⟩ := h
  refine ⟨hT, ⟨⟨h2.1.1, fun q hq => hF _ _ (h2.1.2 q hq) (fun r hr e => h3 r q hr hq e.symm)⟩, h2.2⟩, fun r q hr hq e => ?_⟩
  rcases hN.2 r hr with ⟨p, hp, e2⟩ | e2
  · exact h3 p q hp hq (e2.symm.trans e)
  · rw [e, h2.1.2 q hq] at e2; cases e2
theorem zQ.ask (h : zQ d A D V nk ns B E U mk ms G) (hT : zT d A D' V' nk ns G1) (hF : tFr A nk ns G G1) : zQ d A D' V' nk ns B E U mk ms G1 := h.act hT zNw.rf hF
end ZQQ

