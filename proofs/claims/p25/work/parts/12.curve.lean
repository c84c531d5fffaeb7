
theorem z_m1 (a : Int32) : a + Int32.ofInt (-1) = a - 1 := by
  rw [Int32.sub_eq_add_neg]; rfl
theorem z_geq {g0 : State} {d : zD} {y : MethodName} {cc : ByteArray} {nL : Nat} {ret : Option FieldType} {tb : List ExceptionTableEntry} {p : Program} {l : Launch} {e : Env} {R : Room} {s : State} {m : MethodId} {args : Array Value} {below : List Frame} {meth : Method} {c : Code} {Q : State → Prop} {cells slots : Nat} {G G' : zG} {L : List (Nat × Value)} {st : List Value} {pc : Nat} (h : G = G') (k : Z g0 d y cc nL ret tb p l e R s m args below meth c Q cells slots G' L st pc) : Z g0 d y cc nL ret tb p l e R s m args below meth c Q cells slots G L st pc := by rw [h]; exact k
theorem z_i32le {a b : Int32} (h : a ≤ b) : ¬ b < a := Int32.not_lt.mpr h
/-- behind n + 1 sets -/
theorem zdec_d {inv gv : Nat → Int32} {order pts b0 a0 : Int32} {n : Nat} (h : (zdec inv gv order pts b0 a0 n).2 = pts) : zdec inv gv order pts b0 a0 (n + 1) = zdec inv gv order pts b0 a0 n := if_pos h
theorem zdec_s {inv gv : Nat → Int32} {order pts b0 a0 : Int32} {n : Nat} (h : ¬ (zdec inv gv order pts b0 a0 n).2 = pts) (h2 : ¬ nI (n + 1) &&& (pts ^^^ (-1)) = 0 ∨ ¬ zbc (nI (n + 1)) = order) : zdec inv gv order pts b0 a0 (n + 1) = zdec inv gv order pts b0 a0 n := (if_neg h).trans (if_pos h2)
theorem zdec_l {inv gv : Nat → Int32} {order pts b0 a0 : Int32} {n : Nat} (h : ¬ (zdec inv gv order pts b0 a0 n).2 = pts) (h2 : nI (n + 1) &&& (pts ^^^ (-1)) = 0) (h3 : zbc (nI (n + 1)) = order) (h4 : zbc (zag inv gv pts (nI (n + 1))) ≤ zbc (zdec inv gv order pts b0 a0 n).2) : zdec inv gv order pts b0 a0 (n + 1) = zdec inv gv order pts b0 a0 n := (if_neg h).trans ((if_neg (fun q => q.elim (fun x => x h2) (fun x => x h3))).trans (if_pos h4))
theorem zdec_t {inv gv : Nat → Int32} {order pts b0 a0 : Int32} {n : Nat} (h : ¬ (zdec inv gv order pts b0 a0 n).2 = pts) (h2 : nI (n + 1) &&& (pts ^^^ (-1)) = 0) (h3 : zbc (nI (n + 1)) = order) (h4 : ¬ zbc (zag inv gv pts (nI (n + 1))) ≤ zbc (zdec inv gv order pts b0 a0 n).2) : zdec inv gv order pts b0 a0 (n + 1) = (nI (n + 1), zag inv gv pts (nI (n + 1))) := (if_neg h).trans ((if_neg (fun q => q.elim (fun x => x h2) (fun x => x h3))).trans (if_neg h4))
theorem zdec_e {inv gv : Nat → Int32} {order pts b0 a0 : Int32} {n : Nat} (h : (zdec inv gv order pts b0 a0 n).2 = pts) : ∀ k, zdec inv gv order pts b0 a0 (n + k) = zdec inv gv order pts b0 a0 n
  | 0 => rfl
  | k + 1 => (zdec_d (n := n + k) (by rw [zdec_e h k]; exact h)).trans (zdec_e h k)
/-- the group's head -/
abbrev zgh (hi hg : Nat) (o p b a : Int32) : va_E := zob 4 [.ref hi, .ref hg, .int o, .int p, .int b, .int a]

theorem d_Gr_begin_0 : decode c_Gr_begin 0 = .ok (.aload_n 0, 1) := by decide +kernel
theorem d_Gr_begin_1 : decode c_Gr_begin 1 = .ok (.iload_n 1, 1) := by decide +kernel
theorem d_Gr_begin_2 : decode c_Gr_begin 2 = .ok (.putfield 18, 3) := by decide +kernel
theorem d_Gr_begin_5 : decode c_Gr_begin 5 = .ok (.aload_n 0, 1) := by decide +kernel
theorem d_Gr_begin_6 : decode c_Gr_begin 6 = .ok (.iconst 0, 1) := by decide +kernel
theorem d_Gr_begin_7 : decode c_Gr_begin 7 = .ok (.putfield 22, 3) := by decide +kernel
theorem d_Gr_begin_10 : decode c_Gr_begin 10 = .ok (.aload_n 0, 1) := by decide +kernel
theorem d_Gr_begin_11 : decode c_Gr_begin 11 = .ok (.iconst 0, 1) := by decide +kernel
theorem d_Gr_begin_12 : decode c_Gr_begin 12 = .ok (.putfield 25, 3) := by decide +kernel
theorem d_Gr_begin_15 : decode c_Gr_begin 15 = .ok (.aload_n 0, 1) := by decide +kernel
theorem d_Gr_begin_16 : decode c_Gr_begin 16 = .ok (.iconst 0, 1) := by decide +kernel
theorem d_Gr_begin_17 : decode c_Gr_begin 17 = .ok (.putfield 28, 3) := by decide +kernel
theorem d_Gr_begin_20 : decode c_Gr_begin 20 = .ok (.return_, 1) := by decide +kernel
set_option maxHeartbeats 4000000 in
set_option maxRecDepth 100000 in
theorem m_Gr_begin {g0 : State} {d : zD} {l : Launch} {a0 : Array Value} (hs0 : zS0 d a0 g0) (hst : l.stackTraces = false) {G : zG} {h hi hg : Nat} {inv gv : Nat → Int32} {od ps bs ag : Int32} (hR : zGr d h hi hg inv gv od ps bs ag G) (x : Int32) : zMet g0 d l y_Gr_begin c_Gr_begin 2 ((Option.none : Option Jvm.ClassFile.FieldType)) 1 0 0 [.ref h, .int x] (G) (zEq none (zu G h (zgh hi hg x 0 0 0))) (zNo) := by
  obtain ⟨hG_Gr, hG_i, hG_g, hne⟩ := id hR
  refine z_entry hs0 hst (by decide) (Nat.le_of_ble_eq_true rfl) (fun p e s m args below meth c => ?_)
  refine z_aload_n 0 d_Gr_begin_0 rfl rfl ?_
  refine z_iload_n 1 d_Gr_begin_1 rfl rfl ?_
  refine z_put zc_Gr 2 (by decide) qF_Gr_18 hG_Gr rfl rfl rfl (Nat.le_of_ble_eq_true rfl) d_Gr_begin_2 ?_
  refine z_aload_n 0 d_Gr_begin_5 rfl rfl ?_
  refine z_iconst (v := 0) d_Gr_begin_6 (by decide) ?_
  have hG_Gr := zu_s (G := G) (a := h) (v := zgh hi hg x ps bs ag)
  refine z_put zc_Gr 3 (by decide) qF_Gr_22 hG_Gr rfl rfl rfl (Nat.le_of_ble_eq_true rfl) d_Gr_begin_7 ?_
  refine z_aload_n 0 d_Gr_begin_10 rfl rfl ?_
  refine z_iconst (v := 0) d_Gr_begin_11 (by decide) ?_
  rw [zu_zu]
  have hG_Gr := zu_s (G := G) (a := h) (v := zgh hi hg x 0 bs ag)
  refine z_put zc_Gr 4 (by decide) qF_Gr_25 hG_Gr rfl rfl rfl (Nat.le_of_ble_eq_true rfl) d_Gr_begin_12 ?_
  refine z_aload_n 0 d_Gr_begin_15 rfl rfl ?_
  refine z_iconst (v := 0) d_Gr_begin_16 (by decide) ?_
  rw [zu_zu]
  have hG_Gr := zu_s (G := G) (a := h) (v := zgh hi hg x 0 0 ag)
  refine z_put zc_Gr 5 (by decide) qF_Gr_28 hG_Gr rfl rfl rfl (Nat.le_of_ble_eq_true rfl) d_Gr_begin_17 ?_
  rw [zu_zu]
  exact z_vret rfl (⟨rfl, rfl⟩) (by first | decide | omega) (by first | decide | omega) d_Gr_begin_20
theorem d_Gr_give_0 : decode c_Gr_give 0 = .ok (.iload_n 1, 1) := by decide +kernel
theorem d_Gr_give_1 : decode c_Gr_give 1 = .ok (.ifCond .lt 36, 3) := by decide +kernel
theorem d_Gr_give_4 : decode c_Gr_give 4 = .ok (.iload_n 1, 1) := by decide +kernel
theorem d_Gr_give_5 : decode c_Gr_give 5 = .ok (.aload_n 0, 1) := by decide +kernel
theorem d_Gr_give_6 : decode c_Gr_give 6 = .ok (.getfield 15, 3) := by decide +kernel
theorem d_Gr_give_9 : decode c_Gr_give 9 = .ok (.arraylength, 1) := by decide +kernel
theorem d_Gr_give_10 : decode c_Gr_give 10 = .ok (.if_icmp .ge 27, 3) := by decide +kernel
theorem d_Gr_give_13 : decode c_Gr_give 13 = .ok (.aload_n 0, 1) := by decide +kernel
theorem d_Gr_give_14 : decode c_Gr_give 14 = .ok (.getfield 15, 3) := by decide +kernel
theorem d_Gr_give_17 : decode c_Gr_give 17 = .ok (.iload_n 1, 1) := by decide +kernel
theorem d_Gr_give_18 : decode c_Gr_give 18 = .ok (.iload_n 2, 1) := by decide +kernel
theorem d_Gr_give_19 : decode c_Gr_give 19 = .ok (.bipush 97, 2) := by decide +kernel
theorem d_Gr_give_21 : decode c_Gr_give 21 = .ok (.invokestatic 31, 3) := by decide +kernel
theorem d_Gr_give_24 : decode c_Gr_give 24 = .ok (.iastore, 1) := by decide +kernel
theorem d_Gr_give_25 : decode c_Gr_give 25 = .ok (.aload_n 0, 1) := by decide +kernel
theorem d_Gr_give_26 : decode c_Gr_give 26 = .ok (.dup, 1) := by decide +kernel
theorem d_Gr_give_27 : decode c_Gr_give 27 = .ok (.getfield 22, 3) := by decide +kernel
theorem d_Gr_give_30 : decode c_Gr_give 30 = .ok (.iconst 1, 1) := by decide +kernel
theorem d_Gr_give_31 : decode c_Gr_give 31 = .ok (.iload_n 1, 1) := by decide +kernel
theorem d_Gr_give_32 : decode c_Gr_give 32 = .ok (.ishl, 1) := by decide +kernel
theorem d_Gr_give_33 : decode c_Gr_give 33 = .ok (.ior, 1) := by decide +kernel
theorem d_Gr_give_34 : decode c_Gr_give 34 = .ok (.putfield 22, 3) := by decide +kernel
theorem d_Gr_give_37 : decode c_Gr_give 37 = .ok (.return_, 1) := by decide +kernel
set_option maxHeartbeats 4000000 in
set_option maxRecDepth 100000 in
theorem m_Gr_give {g0 : State} {d : zD} {l : Launch} {a0 : Array Value} (hs0 : zS0 d a0 g0) (hst : l.stackTraces = false) {G : zG} {h hi hg : Nat} {inv gv : Nat → Int32} {od ps bs ag : Int32} (hR : zGr d h hi hg inv gv od ps bs ag G) {k : Nat} (hk : k < 9) (x : Int32) : zMet g0 d l y_Gr_give c_Gr_give 3 ((Option.none : Option Jvm.ClassFile.FieldType)) 2 0 0 [.ref h, .int (nI k), .int x] (G) (zEq none (zu (zu G hg (zI d 9 (upd gv k (zfm x)))) h (zgh hi hg od (ps ||| (1 <<< (nI k &&& 31))) bs ag))) (zNo) := by
  obtain ⟨hG_Gr, hG_i, hG_g, hne⟩ := id hR
  refine z_entry hs0 hst (by decide) (Nat.le_of_ble_eq_true rfl) (fun p e s m args below meth c => ?_)
  refine z_iload_n 1 d_Gr_give_0 rfl rfl ?_
  refine z_if_lt 37 d_Gr_give_1 (by decide) (fun c_1 => (by exfalso; simp (disch := omega) only [Int32.lt_iff_toInt_lt, Int32.le_iff_toInt_le, ← Int32.toInt_inj, nI_toInt, Int32.reduceToInt] at c_1; omega)) (fun c_1 => ?_)
  refine z_iload_n 1 d_Gr_give_4 rfl rfl ?_
  refine z_aload_n 0 d_Gr_give_5 rfl rfl ?_
  refine z_get zc_Gr 1 (by decide) qF_Gr_15 hG_Gr rfl d_Gr_give_6 ?_
  refine z_alenI hG_g d_Gr_give_9 ?_
  refine z_icmp_ge 37 d_Gr_give_10 (by decide) (fun c_10 => absurd c_10 (nI_ge (a := k) (b := 9) hk (by decide))) (fun c_10 => ?_)
  refine z_aload_n 0 d_Gr_give_13 rfl rfl ?_
  refine z_get zc_Gr 1 (by decide) qF_Gr_15 hG_Gr rfl d_Gr_give_14 ?_
  refine z_iload_n 1 d_Gr_give_17 rfl rfl ?_
  refine z_iload_n 2 d_Gr_give_18 rfl rfl ?_
  refine z_bipush (v := 97) d_Gr_give_19 (by decide) ?_
  refine z_callS0 (m_Ma_floorMod hs0 hst x) ym_Ma_floorMod qM_Gr_31 qS_Ma_floorMod d_Gr_give_21 rfl (Nat.le_of_ble_eq_true rfl) ⟨Nat.zero_le _, Nat.zero_le _⟩ ⟨Nat.le_of_ble_eq_true rfl, Nat.le_of_ble_eq_true rfl⟩ ?_
  refine z_iastN hG_g (hk) (by decide) d_Gr_give_24 ?_
  have hG_Gr := (zu_n (G := G) (v := zI d 9 (upd gv k (zfm x))) (zOI hG_Gr hG_g)).trans hG_Gr
  refine z_aload_n 0 d_Gr_give_25 rfl rfl ?_
  refine z_dup d_Gr_give_26 rfl ?_
  refine z_get zc_Gr 3 (by decide) qF_Gr_22 hG_Gr rfl d_Gr_give_27 ?_
  refine z_iconst (v := 1) d_Gr_give_30 (by decide) ?_
  refine z_iload_n 1 d_Gr_give_31 rfl rfl ?_
  refine z_ishl d_Gr_give_32 ?_
  refine z_ior d_Gr_give_33 ?_
  refine z_put zc_Gr 3 (by decide) qF_Gr_22 hG_Gr rfl rfl rfl (Nat.le_of_ble_eq_true rfl) d_Gr_give_34 ?_
  exact z_vret rfl (⟨rfl, rfl⟩) (by first | decide | omega) (by first | decide | omega) d_Gr_give_37
theorem d_Gr_decode_0 : decode c_Gr_decode 0 = .ok (.iconst 1, 1) := by decide +kernel
theorem d_Gr_decode_1 : decode c_Gr_decode 1 = .ok (.istore_n 1, 1) := by decide +kernel
theorem d_Gr_decode_2 : decode c_Gr_decode 2 = .ok (.iload_n 1, 1) := by decide +kernel
theorem d_Gr_decode_3 : decode c_Gr_decode 3 = .ok (.aload_n 0, 1) := by decide +kernel
theorem d_Gr_decode_4 : decode c_Gr_decode 4 = .ok (.getfield 22, 3) := by decide +kernel
theorem d_Gr_decode_7 : decode c_Gr_decode 7 = .ok (.if_icmp .gt 72, 3) := by decide +kernel
theorem d_Gr_decode_10 : decode c_Gr_decode 10 = .ok (.aload_n 0, 1) := by decide +kernel
theorem d_Gr_decode_11 : decode c_Gr_decode 11 = .ok (.getfield 28, 3) := by decide +kernel
theorem d_Gr_decode_14 : decode c_Gr_decode 14 = .ok (.aload_n 0, 1) := by decide +kernel
theorem d_Gr_decode_15 : decode c_Gr_decode 15 = .ok (.getfield 22, 3) := by decide +kernel
theorem d_Gr_decode_18 : decode c_Gr_decode 18 = .ok (.if_icmp .eq 61, 3) := by decide +kernel
theorem d_Gr_decode_21 : decode c_Gr_decode 21 = .ok (.iload_n 1, 1) := by decide +kernel
theorem d_Gr_decode_22 : decode c_Gr_decode 22 = .ok (.aload_n 0, 1) := by decide +kernel
theorem d_Gr_decode_23 : decode c_Gr_decode 23 = .ok (.getfield 22, 3) := by decide +kernel
theorem d_Gr_decode_26 : decode c_Gr_decode 26 = .ok (.iconst (-1), 1) := by decide +kernel
theorem d_Gr_decode_27 : decode c_Gr_decode 27 = .ok (.ixor, 1) := by decide +kernel
theorem d_Gr_decode_28 : decode c_Gr_decode 28 = .ok (.iand, 1) := by decide +kernel
theorem d_Gr_decode_29 : decode c_Gr_decode 29 = .ok (.ifCond .ne 44, 3) := by decide +kernel
theorem d_Gr_decode_32 : decode c_Gr_decode 32 = .ok (.iload_n 1, 1) := by decide +kernel
theorem d_Gr_decode_33 : decode c_Gr_decode 33 = .ok (.invokestatic 37, 3) := by decide +kernel
theorem d_Gr_decode_36 : decode c_Gr_decode 36 = .ok (.aload_n 0, 1) := by decide +kernel
theorem d_Gr_decode_37 : decode c_Gr_decode 37 = .ok (.getfield 18, 3) := by decide +kernel
theorem d_Gr_decode_40 : decode c_Gr_decode 40 = .ok (.if_icmp .eq 6, 3) := by decide +kernel
theorem d_Gr_decode_43 : decode c_Gr_decode 43 = .ok (.goto 30, 3) := by decide +kernel
theorem d_Gr_decode_46 : decode c_Gr_decode 46 = .ok (.aload_n 0, 1) := by decide +kernel
theorem d_Gr_decode_47 : decode c_Gr_decode 47 = .ok (.iload_n 1, 1) := by decide +kernel
theorem d_Gr_decode_48 : decode c_Gr_decode 48 = .ok (.invokevirtual 43, 3) := by decide +kernel
theorem d_Gr_decode_51 : decode c_Gr_decode 51 = .ok (.istore_n 2, 1) := by decide +kernel
theorem d_Gr_decode_52 : decode c_Gr_decode 52 = .ok (.iload_n 2, 1) := by decide +kernel
theorem d_Gr_decode_53 : decode c_Gr_decode 53 = .ok (.invokestatic 37, 3) := by decide +kernel
theorem d_Gr_decode_56 : decode c_Gr_decode 56 = .ok (.aload_n 0, 1) := by decide +kernel
theorem d_Gr_decode_57 : decode c_Gr_decode 57 = .ok (.invokevirtual 46, 3) := by decide +kernel
theorem d_Gr_decode_60 : decode c_Gr_decode 60 = .ok (.if_icmp .le 13, 3) := by decide +kernel
theorem d_Gr_decode_63 : decode c_Gr_decode 63 = .ok (.aload_n 0, 1) := by decide +kernel
theorem d_Gr_decode_64 : decode c_Gr_decode 64 = .ok (.iload_n 1, 1) := by decide +kernel
theorem d_Gr_decode_65 : decode c_Gr_decode 65 = .ok (.putfield 25, 3) := by decide +kernel
theorem d_Gr_decode_68 : decode c_Gr_decode 68 = .ok (.aload_n 0, 1) := by decide +kernel
theorem d_Gr_decode_69 : decode c_Gr_decode 69 = .ok (.iload_n 2, 1) := by decide +kernel
theorem d_Gr_decode_70 : decode c_Gr_decode 70 = .ok (.putfield 28, 3) := by decide +kernel
theorem d_Gr_decode_73 : decode c_Gr_decode 73 = .ok (.iinc 1 1, 3) := by decide +kernel
theorem d_Gr_decode_76 : decode c_Gr_decode 76 = .ok (.goto (-74), 3) := by decide +kernel
theorem d_Gr_decode_79 : decode c_Gr_decode 79 = .ok (.return_, 1) := by decide +kernel
set_option maxHeartbeats 4000000 in
set_option maxRecDepth 100000 in
theorem m_Gr_decode {g0 : State} {d : zD} {l : Launch} {a0 : Array Value} (hs0 : zS0 d a0 g0) (hst : l.stackTraces = false) {G : zG} {h hi hg q : Nat} {inv gv : Nat → Int32} {od bs ag : Int32} (hR : zGr d h hi hg inv gv od (nI q) bs ag G) (hq : q < 512) : zMet g0 d l y_Gr_decode c_Gr_decode 3 ((Option.none : Option Jvm.ClassFile.FieldType)) 4 0 0 [.ref h] (G) (zEq none (zu G h (zgh hi hg od (nI q) (zdec inv gv od (nI q) bs ag q).1 (zdec inv gv od (nI q) bs ag q).2))) (zNo) := by
  obtain ⟨hG_G0, hG_i, hG_g, hne⟩ := id hR
  refine z_entry hs0 hst (by decide) (Nat.le_of_ble_eq_true rfl) (fun p e s m args below meth c => ?_)
  refine z_iconst (v := (nI (0 + 1))) d_Gr_decode_0 (by decide) ?_
  refine z_istore_n (L' := [(1, _), (0, _)]) d_Gr_decode_1 rfl (by decide) rfl ?_
  have key_2 : ∀ (n : Nat) (i : Nat), q + 1 - i < n → (i ≤ q) → Z g0 d y_Gr_decode c_Gr_decode 3 ((Option.none : Option Jvm.ClassFile.FieldType)) [] p l e (zR 4 0 0) s m args below meth c (vx_MQ below (zQc g0 d (zEq none (zu G h (zgh hi hg od (nI q) (zdec inv gv od (nI q) bs ag q).1 (zdec inv gv od (nI q) bs ag q).2)))) (zXc g0 d (zNo)) args s 0 0 (zA g0)) 0 0 (zu G h (zgh hi hg od (nI q) (zdec inv gv od (nI q) bs ag i).1 (zdec inv gv od (nI q) bs ag i).2)) [(1, .int (nI (i + 1))), (0, .ref h)] [] 2 := by
    intro n
    induction n with
    | zero => intro i h0; exact absurd h0 (Nat.not_lt_zero _)
    | succ n ih_2 =>
      intro i hm_2 hi2
      have hG_Gr := zu_s (G := G) (a := h) (v := zgh hi hg od (nI q) (zdec inv gv od (nI q) bs ag i).1 (zdec inv gv od (nI q) bs ag i).2)
      have hR2 : zGr d h hi hg inv gv od (nI q) (zdec inv gv od (nI q) bs ag i).1 (zdec inv gv od (nI q) bs ag i).2 (zu G h (zgh hi hg od (nI q) (zdec inv gv od (nI q) bs ag i).1 (zdec inv gv od (nI q) bs ag i).2)) := ⟨hG_Gr, (zu_n (Ne.symm (zOI hG_G0 hG_i))).trans hG_i, (zu_n (Ne.symm (zOI hG_G0 hG_g))).trans hG_g, hne⟩
      refine z_iload_n 0 d_Gr_decode_2 rfl rfl ?_
      refine z_aload_n 1 d_Gr_decode_3 rfl rfl ?_
      refine z_get zc_Gr 3 (by decide) qF_Gr_22 hG_Gr rfl d_Gr_decode_4 ?_
      refine z_icmp_gt 79 d_Gr_decode_7 (by decide) (fun c_7 => ?_) (fun c_7 => ?_)
      · skip
        obtain rfl : i = q := by
          have := (nI_ltI (a := q) (b := i + 1) (by omega) (by omega)).mp c_7
          omega
        exact z_vret rfl (⟨rfl, rfl⟩) (by first | decide | omega) (by first | decide | omega) d_Gr_decode_79
      · skip
        have hi7 : i < q := by
          have h7 : ¬ q < i + 1 := fun z => c_7 ((nI_ltI (a := q) (b := i + 1) (by omega) (by omega)).mpr z)
          omega
        refine z_aload_n 1 d_Gr_decode_10 rfl rfl ?_
        refine z_get zc_Gr 5 (by decide) qF_Gr_28 hG_Gr rfl d_Gr_decode_11 ?_
        refine z_aload_n 1 d_Gr_decode_14 rfl rfl ?_
        refine z_get zc_Gr 3 (by decide) qF_Gr_22 hG_Gr rfl d_Gr_decode_15 ?_
        refine z_icmp_eq 79 d_Gr_decode_18 (by decide) (fun c_18 => ?_) (fun c_18 => ?_)
        · skip
          have e18 := zdec_e c_18 (q - i)
          rw [show i + (q - i) = q by omega] at e18
          rw [← e18]
          exact z_vret rfl (⟨rfl, rfl⟩) (by first | decide | omega) (by first | decide | omega) d_Gr_decode_79
        · skip
          refine z_iload_n 0 d_Gr_decode_21 rfl rfl ?_
          refine z_aload_n 1 d_Gr_decode_22 rfl rfl ?_
          refine z_get zc_Gr 3 (by decide) qF_Gr_22 hG_Gr rfl d_Gr_decode_23 ?_
          refine z_iconst (v := (-1)) d_Gr_decode_26 (by decide) ?_
          refine z_ixor d_Gr_decode_27 ?_
          refine z_iand d_Gr_decode_28 ?_
          refine z_if_ne 73 d_Gr_decode_29 (by decide) (fun c_29 => ?_) (fun c_29 => ?_)
          · skip
            rw [← zdec_s c_18 (Or.inl c_29)]
            refine z_iinc (v := nI (i + 1 + 1)) (L' := [(1, _), (0, _)]) 0 d_Gr_decode_73 rfl (nI_1 (i + 1)) (by decide) rfl ?_
            refine z_goto 2 d_Gr_decode_76 (by decide) ?_
            exact ih_2 (i + 1) (by omega) (by omega)
          · skip
            refine z_iload_n 0 d_Gr_decode_32 rfl rfl ?_
            refine z_callS0 (m_In_bitCount hs0 hst _) ym_In_bitCount qM_Gr_37 qS_In_bitCount d_Gr_decode_33 rfl (Nat.le_of_ble_eq_true rfl) ⟨Nat.zero_le _, Nat.zero_le _⟩ ⟨Nat.le_of_ble_eq_true rfl, Nat.le_of_ble_eq_true rfl⟩ ?_
            refine z_aload_n 1 d_Gr_decode_36 rfl rfl ?_
            refine z_get zc_Gr 2 (by decide) qF_Gr_18 hG_Gr rfl d_Gr_decode_37 ?_
            refine z_icmp_eq 46 d_Gr_decode_40 (by decide) (fun c_40 => ?_) (fun c_40 => ?_)
            · skip
              refine z_aload_n 1 d_Gr_decode_46 rfl rfl ?_
              refine z_iload_n 0 d_Gr_decode_47 rfl rfl ?_
              refine z_callV0 (m_Gr_agreeingWith hs0 hst hR2 (nI (i + 1))) ym_Gr_agreeingWith qM_Gr_43 qI_Gr_agreeingWith qV_Gr_Gr_agreeingWith zc_Gr hG_Gr d_Gr_decode_48 rfl (Nat.le_of_ble_eq_true rfl) ⟨Nat.zero_le _, Nat.zero_le _⟩ ⟨Nat.le_of_ble_eq_true rfl, Nat.le_of_ble_eq_true rfl⟩ ?_
              refine z_istore_n (L' := [(2, _), (1, _), (0, _)]) d_Gr_decode_51 rfl (by decide) rfl ?_
              refine z_iload_n 0 d_Gr_decode_52 rfl rfl ?_
              refine z_callS0 (m_In_bitCount hs0 hst _) ym_In_bitCount qM_Gr_37 qS_In_bitCount d_Gr_decode_53 rfl (Nat.le_of_ble_eq_true rfl) ⟨Nat.zero_le _, Nat.zero_le _⟩ ⟨Nat.le_of_ble_eq_true rfl, Nat.le_of_ble_eq_true rfl⟩ ?_
              refine z_aload_n 2 d_Gr_decode_56 rfl rfl ?_
              refine z_callV0 (m_Gr_agreed hs0 hst hR2) ym_Gr_agreed qM_Gr_46 qI_Gr_agreed qV_Gr_Gr_agreed zc_Gr hG_Gr d_Gr_decode_57 rfl (Nat.le_of_ble_eq_true rfl) ⟨Nat.zero_le _, Nat.zero_le _⟩ ⟨Nat.le_of_ble_eq_true rfl, Nat.le_of_ble_eq_true rfl⟩ ?_
              refine z_icmp_le 73 d_Gr_decode_60 (by decide) (fun c_60 => ?_) (fun c_60 => ?_)
              · skip
                rw [← zdec_l c_18 c_29 c_40 c_60]
                refine z_iinc (v := nI (i + 1 + 1)) (L' := [(1, _), (2, _), (0, _)]) 1 d_Gr_decode_73 rfl (nI_1 (i + 1)) (by decide) rfl ?_
                refine z_goto 2 d_Gr_decode_76 (by decide) ?_
                refine z_sub (L' := [(1, _), (0, _)]) [0, 2] rfl ?_
                exact ih_2 (i + 1) (by omega) (by omega)
              · skip
                refine z_aload_n 2 d_Gr_decode_63 rfl rfl ?_
                refine z_iload_n 1 d_Gr_decode_64 rfl rfl ?_
                refine z_put zc_Gr 4 (by decide) qF_Gr_25 hG_Gr rfl rfl rfl (Nat.le_of_ble_eq_true rfl) d_Gr_decode_65 ?_
                rw [zu_zu]
                have hG_Gr := zu_s (G := G) (a := h) (v := zgh hi hg od (nI q) (nI (i + 1)) (zdec inv gv od (nI q) bs ag i).2)
                refine z_aload_n 2 d_Gr_decode_68 rfl rfl ?_
                refine z_iload_n 0 d_Gr_decode_69 rfl rfl ?_
                refine z_put zc_Gr 5 (by decide) qF_Gr_28 hG_Gr rfl rfl rfl (Nat.le_of_ble_eq_true rfl) d_Gr_decode_70 ?_
                rw [zu_zu]
                refine z_geq (G' := zu G h (zgh hi hg od (nI q) (zdec inv gv od (nI q) bs ag (i + 1)).1 (zdec inv gv od (nI q) bs ag (i + 1)).2)) (by rw [zdec_t c_18 c_29 c_40 c_60] <;> rfl) ?_
                refine z_iinc (v := nI (i + 1 + 1)) (L' := [(1, _), (2, _), (0, _)]) 1 d_Gr_decode_73 rfl (nI_1 (i + 1)) (by decide) rfl ?_
                refine z_goto 2 d_Gr_decode_76 (by decide) ?_
                refine z_sub (L' := [(1, _), (0, _)]) [0, 2] rfl ?_
                exact ih_2 (i + 1) (by omega) (by omega)
            · skip
              rw [← zdec_s c_18 (Or.inr c_40)]
              refine z_goto 73 d_Gr_decode_43 (by decide) ?_
              refine z_iinc (v := nI (i + 1 + 1)) (L' := [(1, _), (0, _)]) 0 d_Gr_decode_73 rfl (nI_1 (i + 1)) (by decide) rfl ?_
              refine z_goto 2 d_Gr_decode_76 (by decide) ?_
              exact ih_2 (i + 1) (by omega) (by omega)
  refine z_geq (G' := zu G h (zgh hi hg od (nI q) (zdec inv gv od (nI q) bs ag 0).1 (zdec inv gv od (nI q) bs ag 0).2)) (zu_id hG_G0).symm ?_
  exact key_2 (q + 2) 0 (by omega) (by omega)

/-- luck goes on; what is drawn -/
def zlk (x : Int32) : Int32 := 77 * x + 31 - (77 * x + 31) / 256 * 256
def zdr (x : Int32) : Int32 := x * 97 / 256
/-- the curve drawn: luck behind the first n numbers, and the numbers -/
def zlkn (order x : Int32) : Nat → Int32
  | 0 => x
  | n + 1 => if n ≠ 0 ∧ nI n < order then zlk (zlkn order x n) else zlkn order x n
def zcvn (first order x : Int32) (n : Nat) : Int32 := if n = 0 then first else if nI n < order then zdr (zlk (zlkn order x n)) else 0
def zcvs (f : Nat → Int32) (first order x : Int32) (n : Nat) : Nat → Int32 := fun k => if k < n then zcvn first order x k else f k
theorem zcvs_u {f : Nat → Int32} {first order x : Int32} {n : Nat} : upd (zcvs f first order x n) n (zcvn first order x n) = zcvs f first order x (n + 1) := by
  funext k
  unfold zcvs
  by_cases h : k = n
  · subst h
    rw [pk_us, if_pos (by omega)]
  · rw [pk_un h]
    by_cases h2 : k < n
    · rw [if_pos h2, if_pos (by omega)]
    · rw [if_neg h2, if_neg (by omega)]
/-- the curve at a point, from its last number on -/
def zcat (f : Nat → Int32) (x : Int32) : Nat → Int32
  | 0 => nI 0
  | n + 1 => zr97 (zcat f x n * x + f (3 - n))

theorem d_Cu_nextNumber_0 : decode c_Cu_nextNumber 0 = .ok (.aload_n 0, 1) := by decide +kernel
theorem d_Cu_nextNumber_1 : decode c_Cu_nextNumber 1 = .ok (.bipush 77, 2) := by decide +kernel
theorem d_Cu_nextNumber_3 : decode c_Cu_nextNumber 3 = .ok (.aload_n 0, 1) := by decide +kernel
theorem d_Cu_nextNumber_4 : decode c_Cu_nextNumber 4 = .ok (.getfield 15, 3) := by decide +kernel
theorem d_Cu_nextNumber_7 : decode c_Cu_nextNumber 7 = .ok (.imul, 1) := by decide +kernel
theorem d_Cu_nextNumber_8 : decode c_Cu_nextNumber 8 = .ok (.bipush 31, 2) := by decide +kernel
theorem d_Cu_nextNumber_10 : decode c_Cu_nextNumber 10 = .ok (.iadd, 1) := by decide +kernel
theorem d_Cu_nextNumber_11 : decode c_Cu_nextNumber 11 = .ok (.sipush 256, 3) := by decide +kernel
theorem d_Cu_nextNumber_14 : decode c_Cu_nextNumber 14 = .ok (.irem, 1) := by decide +kernel
theorem d_Cu_nextNumber_15 : decode c_Cu_nextNumber 15 = .ok (.putfield 15, 3) := by decide +kernel
theorem d_Cu_nextNumber_18 : decode c_Cu_nextNumber 18 = .ok (.aload_n 0, 1) := by decide +kernel
theorem d_Cu_nextNumber_19 : decode c_Cu_nextNumber 19 = .ok (.getfield 15, 3) := by decide +kernel
theorem d_Cu_nextNumber_22 : decode c_Cu_nextNumber 22 = .ok (.bipush 97, 2) := by decide +kernel
theorem d_Cu_nextNumber_24 : decode c_Cu_nextNumber 24 = .ok (.imul, 1) := by decide +kernel
theorem d_Cu_nextNumber_25 : decode c_Cu_nextNumber 25 = .ok (.sipush 256, 3) := by decide +kernel
theorem d_Cu_nextNumber_28 : decode c_Cu_nextNumber 28 = .ok (.idiv, 1) := by decide +kernel
theorem d_Cu_nextNumber_29 : decode c_Cu_nextNumber 29 = .ok (.ireturn, 1) := by decide +kernel
set_option maxHeartbeats 4000000 in
set_option maxRecDepth 100000 in
theorem m_Cu_nextNumber {g0 : State} {d : zD} {l : Launch} {a0 : Array Value} (hs0 : zS0 d a0 g0) (hst : l.stackTraces = false) {G : zG} {h hn : Nat} {f : Nat → Int32} {lk : Int32} (hG_Cu : G h = some (zob 3 [.ref hn, .int lk])) : zMet g0 d l y_Cu_nextNumber c_Cu_nextNumber 1 ((Option.some Jvm.ClassFile.FieldType.int)) 1 0 0 [.ref h] (G) (zEq (some (.int (zdr (zlk lk)))) (zu G h (zob 3 [.ref hn, .int (zlk lk)]))) (zNo) := by
  refine z_entry hs0 hst (by decide) (Nat.le_of_ble_eq_true rfl) (fun p e s m args below meth c => ?_)
  refine z_aload_n 0 d_Cu_nextNumber_0 rfl rfl ?_
  refine z_bipush (v := 77) d_Cu_nextNumber_1 (by decide) ?_
  refine z_aload_n 0 d_Cu_nextNumber_3 rfl rfl ?_
  refine z_get zc_Cu 1 (by decide) qF_Cu_15 hG_Cu rfl d_Cu_nextNumber_4 ?_
  refine z_imul d_Cu_nextNumber_7 ?_
  refine z_bipush (v := 31) d_Cu_nextNumber_8 (by decide) ?_
  refine z_iadd d_Cu_nextNumber_10 ?_
  refine z_sipush (v := 256) d_Cu_nextNumber_11 (by decide) ?_
  refine z_irem d_Cu_nextNumber_14 (by decide) ?_
  refine z_topv (v := zlk lk) rfl ?_
  refine z_put zc_Cu 1 (by decide) qF_Cu_15 hG_Cu rfl rfl rfl (Nat.le_of_ble_eq_true rfl) d_Cu_nextNumber_15 ?_
  have hG_Cu := zu_s (G := G) (a := h) (v := zob 3 [.ref hn, .int (zlk lk)])
  refine z_aload_n 0 d_Cu_nextNumber_18 rfl rfl ?_
  refine z_get zc_Cu 1 (by decide) qF_Cu_15 hG_Cu rfl d_Cu_nextNumber_19 ?_
  refine z_bipush (v := 97) d_Cu_nextNumber_22 (by decide) ?_
  refine z_imul d_Cu_nextNumber_24 ?_
  refine z_sipush (v := 256) d_Cu_nextNumber_25 (by decide) ?_
  refine z_idiv d_Cu_nextNumber_28 (by decide) ?_
  exact z_iret rfl (⟨rfl, rfl⟩) (by first | decide | omega) (by first | decide | omega) d_Cu_nextNumber_29
theorem d_Cu_at_0 : decode c_Cu_at 0 = .ok (.iconst 0, 1) := by decide +kernel
theorem d_Cu_at_1 : decode c_Cu_at 1 = .ok (.istore_n 2, 1) := by decide +kernel
theorem d_Cu_at_2 : decode c_Cu_at 2 = .ok (.aload_n 0, 1) := by decide +kernel
theorem d_Cu_at_3 : decode c_Cu_at 3 = .ok (.getfield 9, 3) := by decide +kernel
theorem d_Cu_at_6 : decode c_Cu_at 6 = .ok (.arraylength, 1) := by decide +kernel
theorem d_Cu_at_7 : decode c_Cu_at 7 = .ok (.iconst 1, 1) := by decide +kernel
theorem d_Cu_at_8 : decode c_Cu_at 8 = .ok (.isub, 1) := by decide +kernel
theorem d_Cu_at_9 : decode c_Cu_at 9 = .ok (.istore_n 3, 1) := by decide +kernel
theorem d_Cu_at_10 : decode c_Cu_at 10 = .ok (.iload_n 3, 1) := by decide +kernel
theorem d_Cu_at_11 : decode c_Cu_at 11 = .ok (.ifCond .lt 23, 3) := by decide +kernel
theorem d_Cu_at_14 : decode c_Cu_at 14 = .ok (.iload_n 2, 1) := by decide +kernel
theorem d_Cu_at_15 : decode c_Cu_at 15 = .ok (.iload_n 1, 1) := by decide +kernel
theorem d_Cu_at_16 : decode c_Cu_at 16 = .ok (.imul, 1) := by decide +kernel
theorem d_Cu_at_17 : decode c_Cu_at 17 = .ok (.aload_n 0, 1) := by decide +kernel
theorem d_Cu_at_18 : decode c_Cu_at 18 = .ok (.getfield 9, 3) := by decide +kernel
theorem d_Cu_at_21 : decode c_Cu_at 21 = .ok (.iload_n 3, 1) := by decide +kernel
theorem d_Cu_at_22 : decode c_Cu_at 22 = .ok (.iaload, 1) := by decide +kernel
theorem d_Cu_at_23 : decode c_Cu_at 23 = .ok (.iadd, 1) := by decide +kernel
theorem d_Cu_at_24 : decode c_Cu_at 24 = .ok (.bipush 97, 2) := by decide +kernel
theorem d_Cu_at_26 : decode c_Cu_at 26 = .ok (.irem, 1) := by decide +kernel
theorem d_Cu_at_27 : decode c_Cu_at 27 = .ok (.istore_n 2, 1) := by decide +kernel
theorem d_Cu_at_28 : decode c_Cu_at 28 = .ok (.iinc 3 (-1), 3) := by decide +kernel
theorem d_Cu_at_31 : decode c_Cu_at 31 = .ok (.goto (-21), 3) := by decide +kernel
theorem d_Cu_at_34 : decode c_Cu_at 34 = .ok (.iload_n 2, 1) := by decide +kernel
theorem d_Cu_at_35 : decode c_Cu_at 35 = .ok (.ireturn, 1) := by decide +kernel
set_option maxHeartbeats 4000000 in
set_option maxRecDepth 100000 in
theorem m_Cu_at {g0 : State} {d : zD} {l : Launch} {a0 : Array Value} (hs0 : zS0 d a0 g0) (hst : l.stackTraces = false) {G : zG} {h hn : Nat} {f : Nat → Int32} {lk : Int32} (hG_Cu : G h = some (zob 3 [.ref hn, .int lk])) (hG_n : G hn = some (zI d 4 f)) (x : Int32) : zMet g0 d l y_Cu_at c_Cu_at 4 ((Option.some Jvm.ClassFile.FieldType.int)) 1 0 0 [.ref h, .int x] (G) (zEq (some (.int (zcat f x 4))) G) (zNo) := by
  refine z_entry hs0 hst (by decide) (Nat.le_of_ble_eq_true rfl) (fun p e s m args below meth c => ?_)
  refine z_iconst (v := (nI 0)) d_Cu_at_0 (by decide) ?_
  refine z_istore_n (L' := [(2, _), (0, _), (1, _)]) d_Cu_at_1 rfl (by decide) rfl ?_
  refine z_aload_n 1 d_Cu_at_2 rfl rfl ?_
  refine z_get zc_Cu 0 (by decide) qF_Cu_9 hG_Cu rfl d_Cu_at_3 ?_
  refine z_alenI hG_n d_Cu_at_6 ?_
  refine z_iconst (v := 1) d_Cu_at_7 (by decide) ?_
  refine z_isub d_Cu_at_8 ?_
  refine z_istore_n (L' := [(3, _), (2, _), (0, _), (1, _)]) d_Cu_at_9 rfl (by decide) rfl ?_
  have key_10 : ∀ (n : Nat) (i : Nat), 5 - i < n → (i ≤ 4) → Z g0 d y_Cu_at c_Cu_at 4 ((Option.some Jvm.ClassFile.FieldType.int)) [] p l e (zR 1 0 0) s m args below meth c (vx_MQ below (zQc g0 d (zEq (some (.int (zcat f x 4))) G)) (zXc g0 d (zNo)) args s 0 0 (zA g0)) 0 0 (G) [(3, .int (nI (4 - i) - 1)), (2, .int (zcat f x i)), (0, .ref h), (1, .int x)] [] 10 := by
    intro n
    induction n with
    | zero => intro i h0; exact absurd h0 (Nat.not_lt_zero _)
    | succ n ih_10 =>
      intro i hm_10 hi
      refine z_iload_n 0 d_Cu_at_10 rfl rfl ?_
      refine z_if_lt 34 d_Cu_at_11 (by decide) (fun c_11 => ?_) (fun c_11 => ?_)
      · skip
        obtain rfl : i = 4 := by
          by_cases h4 : i = 4
          · exact h4
          · rw [show 4 - i = 3 - i + 1 by omega, ← nI_1] at c_11
            exact absurd c_11 (by have := nI_pos (n := 3 - i) (by omega); rwa [Int32.add_sub_cancel])
        refine z_iload_n 1 d_Cu_at_34 rfl rfl ?_
        exact z_iret rfl (⟨rfl, rfl⟩) (by first | decide | omega) (by first | decide | omega) d_Cu_at_35
      · skip
        have hi4 : i < 4 := by
          by_cases h4 : i = 4
          · subst h4; exact absurd (by decide) c_11
          · omega
        rw [show nI (4 - i) - 1 = nI (3 - i) from by rw [show 4 - i = 3 - i + 1 by omega, ← nI_1, Int32.add_sub_cancel]]
        refine z_iload_n 1 d_Cu_at_14 rfl rfl ?_
        refine z_iload_n 3 d_Cu_at_15 rfl rfl ?_
        refine z_imul d_Cu_at_16 ?_
        refine z_aload_n 2 d_Cu_at_17 rfl rfl ?_
        refine z_get zc_Cu 0 (by decide) qF_Cu_9 hG_Cu rfl d_Cu_at_18 ?_
        refine z_iload_n 0 d_Cu_at_21 rfl rfl ?_
        refine z_ialdN hG_n (show 3 - i < 4 by omega) (by decide) d_Cu_at_22 ?_
        refine z_iadd d_Cu_at_23 ?_
        refine z_bipush (v := 97) d_Cu_at_24 (by decide) ?_
        refine z_irem d_Cu_at_26 (by decide) ?_
        refine z_topv (v := zcat f x (i + 1)) rfl ?_
        refine z_istore_n (L' := [(2, _), (3, _), (0, _), (1, _)]) d_Cu_at_27 rfl (by decide) rfl ?_
        refine z_iinc (v := nI (4 - (i + 1)) - 1) (L' := [(3, _), (2, _), (0, _), (1, _)]) 1 d_Cu_at_28 rfl (by rw [show 4 - (i + 1) = 3 - i by omega]; exact z_m1 _) (by decide) rfl ?_
        refine z_goto 10 d_Cu_at_31 (by decide) ?_
        exact ih_10 (i + 1) (by omega) (by omega)
  exact key_10 6 0 (by omega) (by omega)
