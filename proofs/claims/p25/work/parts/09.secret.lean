
theorem zu_id {G : zG} {a : Nat} {v : va_E} (h : G a = some v) : zu G a v = G := by
  funext q
  by_cases e : q = a
  · subst e; rw [zu_s, h]
  · rw [zu_n e]
theorem zu_zu {G : zG} {a : Nat} {v w : va_E} : zu (zu G a v) a w = zu G a w := by
  funext q
  by_cases e : q = a
  · subst e; rw [zu_s, zu_s]
  · rw [zu_n e, zu_n e, zu_n e]
/-- reading and writing that is tested first -/
def zrd (n : Nat) (f : Nat → Int32) (df x : Int32) : Int32 := if x < 0 ∨ nI n ≤ x then df else f x.toNatClampNeg
def zwr (n : Nat) (f : Nat → Int32) (x v : Int32) : Nat → Int32 := if x < 0 ∨ nI n ≤ x then f else upd f x.toNatClampNeg v
theorem zrd_in {n : Nat} {f : Nat → Int32} {df x : Int32} (h1 : ¬ x < 0) (h2 : ¬ nI n ≤ x) : f x.toNatClampNeg = zrd n f df x := (if_neg (fun h => h.elim h1 h2)).symm
theorem zrd_o1 {n : Nat} {f : Nat → Int32} {df x : Int32} (h1 : x < 0) : df = zrd n f df x := (if_pos (Or.inl h1)).symm
theorem zrd_o2 {n : Nat} {f : Nat → Int32} {df x : Int32} (h1 : nI n ≤ x) : df = zrd n f df x := (if_pos (Or.inr h1)).symm
theorem zwr_in {n : Nat} {f : Nat → Int32} {v x : Int32} (h1 : ¬ x < 0) (h2 : ¬ nI n ≤ x) : upd f x.toNatClampNeg v = zwr n f x v := (if_neg (fun h => h.elim h1 h2)).symm
theorem zwr_o1 {n : Nat} {f : Nat → Int32} {v x : Int32} (h1 : x < 0) : zwr n f x v = f := if_pos (Or.inl h1)
theorem zwr_o2 {n : Nat} {f : Nat → Int32} {v x : Int32} (h1 : nI n ≤ x) : zwr n f x v = f := if_pos (Or.inr h1)
theorem zrd_N {n j : Nat} {f : Nat → Int32} {df : Int32} (h : j < n) (hn : n < 2 ^ 31) : zrd n f df (nI j) = f j := by
  rw [← zrd_in (nI_pos (by omega)) (nI_ge h hn), nI_clamp (by omega)]
theorem zwr_N {n j : Nat} {f : Nat → Int32} {v : Int32} (h : j < n) (hn : n < 2 ^ 31) : zwr n f (nI j) v = upd f j v := by
  rw [← zwr_in (nI_pos (by omega)) (nI_ge h hn), nI_clamp (by omega)]
theorem vp_of {x : Int32} {n : Nat} (hn : n < 2 ^ 31) (h1 : ¬ x < 0) (h2 : ¬ nI n ≤ x) : vp_in x n := by
  obtain ⟨j, hj, rfl⟩ := nI_of h1
  exact vp_in_nI (Nat.lt_of_not_le fun q => h2 (nI_le q hj)) hn
section ZC
variable {g0 : State} {d : zD} {y : MethodName} {cc : ByteArray} {nL : Nat} {ret : Option FieldType} {tb : List ExceptionTableEntry} {p : Program} {l : Launch} {e : Env} {R : Room} {s : State} {m : MethodId} {args : Array Value} {below : List Frame} {meth : Method} {c : Code} {Q : State → Prop} {cells slots : Nat} {G : zG} {L : List (Nat × Value)} {st : List Value} {pc : Nat}
theorem z_ialdN {a n j : Nat} {f : Nat → Int32} (hG : G a = some (zI d n f)) (hj : j < n) (hn : n < 2 ^ 31) (hd : decode cc pc = .ok (.iaload, 1)) (k : Z g0 d y cc nL ret tb p l e R s m args below meth c Q cells slots G L (.int (f j) :: st) (pc + 1)) : Z g0 d y cc nL ret tb p l e R s m args below meth c Q cells slots G L (.int (nI j) :: .ref a :: st) pc := z_iald hG (vp_in_nI hj hn) hd (by rw [nI_clamp (by omega)]; exact k)
theorem z_iastN {a n j : Nat} {f : Nat → Int32} {x : Int32} (hG : G a = some (zI d n f)) (hj : j < n) (hn : n < 2 ^ 31) (hd : decode cc pc = .ok (.iastore, 1)) (k : Z g0 d y cc nL ret tb p l e R s m args below meth c Q cells slots (zu G a (zI d n (upd f j x))) L st (pc + 1)) : Z g0 d y cc nL ret tb p l e R s m args below meth c Q cells slots G L (.int x :: .int (nI j) :: .ref a :: st) pc := z_iast hG (vp_in_nI hj hn) hd (by rw [nI_clamp (by omega)]; exact k)
end ZC
/-- a set as a number: bit by bit, as the loops make it -/
def zset (f : Nat → Bool) : Nat → Int32
  | 0 => nI 0
  | n + 1 => if f n then zset f n ||| (1 <<< (nI n &&& 31)) else zset f n
theorem zset_t {f : Nat → Bool} {n : Nat} (h : ¬ zb (f n) = 0) : zset f n ||| (1 <<< (nI n &&& 31)) = zset f (n + 1) := (if_pos ((zb_n0 _).mp h)).symm
theorem zset_f {f : Nat → Bool} {n : Nat} (h : zb (f n) = 0) : zset f n = zset f (n + 1) := (if_neg (by rw [(zb_0 _).mp h]; decide)).symm
def zcur (ep : Nat → Int32) (epo : Int32) (j : Nat) : Bool := decide (ep j ≠ -1) && decide (ep j = epo)
def zstl (ep : Nat → Int32) (epo : Int32) (j : Nat) : Bool := decide (ep j ≠ -1) && decide (ep j ≠ epo)

theorem d_Se_isCurrent_0 : decode c_Se_isCurrent 0 = .ok (.aload_n 0, 1) := by decide +kernel
theorem d_Se_isCurrent_1 : decode c_Se_isCurrent 1 = .ok (.iload_n 1, 1) := by decide +kernel
theorem d_Se_isCurrent_2 : decode c_Se_isCurrent 2 = .ok (.invokevirtual 42, 3) := by decide +kernel
theorem d_Se_isCurrent_5 : decode c_Se_isCurrent 5 = .ok (.ifCond .eq 19, 3) := by decide +kernel
theorem d_Se_isCurrent_8 : decode c_Se_isCurrent 8 = .ok (.aload_n 0, 1) := by decide +kernel
theorem d_Se_isCurrent_9 : decode c_Se_isCurrent 9 = .ok (.iload_n 1, 1) := by decide +kernel
theorem d_Se_isCurrent_10 : decode c_Se_isCurrent 10 = .ok (.invokevirtual 38, 3) := by decide +kernel
theorem d_Se_isCurrent_13 : decode c_Se_isCurrent 13 = .ok (.aload_n 0, 1) := by decide +kernel
theorem d_Se_isCurrent_14 : decode c_Se_isCurrent 14 = .ok (.getfield 28, 3) := by decide +kernel
theorem d_Se_isCurrent_17 : decode c_Se_isCurrent 17 = .ok (.if_icmp .ne 7, 3) := by decide +kernel
theorem d_Se_isCurrent_20 : decode c_Se_isCurrent 20 = .ok (.iconst 1, 1) := by decide +kernel
theorem d_Se_isCurrent_21 : decode c_Se_isCurrent 21 = .ok (.goto 4, 3) := by decide +kernel
theorem d_Se_isCurrent_24 : decode c_Se_isCurrent 24 = .ok (.iconst 0, 1) := by decide +kernel
theorem d_Se_isCurrent_25 : decode c_Se_isCurrent 25 = .ok (.ireturn, 1) := by decide +kernel
set_option maxHeartbeats 4000000 in
set_option maxRecDepth 100000 in
theorem m_Se_isCurrent {g0 : State} {d : zD} {l : Launch} {a0 : Array Value} (hs0 : zS0 d a0 g0) (hst : l.stackTraces = false) {G : zG} {h hs he : Nat} {t z dt : Int32} {sh ep : Nat → Int32} {epo fr bl : Int32} {j : Nat} (hS : zSe d h hs he t z dt sh ep epo fr bl G) (hj : j < 8) : zMet g0 d l y_Se_isCurrent c_Se_isCurrent 2 ((Option.some Jvm.ClassFile.FieldType.boolean)) 3 0 0 [.ref h, .int (nI j)] (G) (zEq (some (.int (zb (zcur ep epo j)))) G) (zNo) := by
  obtain ⟨hG_Se, hG_s, hG_e, hne⟩ := id hS
  refine z_entry hs0 hst (by decide) (Nat.le_of_ble_eq_true rfl) (fun p e s m args below meth c => ?_)
  refine z_aload_n 0 d_Se_isCurrent_0 rfl rfl ?_
  refine z_iload_n 1 d_Se_isCurrent_1 rfl rfl ?_
  refine z_callV0 (m_Se_has hs0 hst hS hj) ym_Se_has qM_Se_42 qI_Se_has qV_Se_Se_has zc_Se hG_Se d_Se_isCurrent_2 rfl (Nat.le_of_ble_eq_true rfl) ⟨Nat.zero_le _, Nat.zero_le _⟩ ⟨Nat.le_of_ble_eq_true rfl, Nat.le_of_ble_eq_true rfl⟩ ?_
  refine z_if_eq 24 d_Se_isCurrent_5 (by decide) (fun c_5 => ?_) (fun c_5 => ?_)
  · skip
    refine z_iconst (v := 0) d_Se_isCurrent_24 (by decide) ?_
    exact z_zret rfl (by first | rfl | exact zb_nar _) (⟨by first | rw [show zcur ep epo j = false from by unfold zcur; rw [(zb_0 _).mp c_5]; rfl]; rfl | rw [show zcur ep epo j = true from by unfold zcur; rw [(zb_n0 _).mp c_5]; simp only [Bool.true_and, decide_eq_true_eq]; exact c_17]; rfl | rw [show zcur ep epo j = false from by unfold zcur; rw [(zb_n0 _).mp c_5]; simp only [Bool.true_and, decide_eq_false_iff_not, Decidable.not_not]; exact c_17]; rfl, rfl⟩) (by first | decide | omega) (by first | decide | omega) d_Se_isCurrent_25
  · skip
    refine z_aload_n 0 d_Se_isCurrent_8 rfl rfl ?_
    refine z_iload_n 1 d_Se_isCurrent_9 rfl rfl ?_
    refine z_callV0 (m_Se_epochOf hs0 hst hS hj) ym_Se_epochOf qM_Se_38 qI_Se_epochOf qV_Se_Se_epochOf zc_Se hG_Se d_Se_isCurrent_10 rfl (Nat.le_of_ble_eq_true rfl) ⟨Nat.zero_le _, Nat.zero_le _⟩ ⟨Nat.le_of_ble_eq_true rfl, Nat.le_of_ble_eq_true rfl⟩ ?_
    refine z_aload_n 0 d_Se_isCurrent_13 rfl rfl ?_
    refine z_get zc_Se 5 (by decide) qF_Se_28 hG_Se rfl d_Se_isCurrent_14 ?_
    refine z_icmp_ne 24 d_Se_isCurrent_17 (by decide) (fun c_17 => ?_) (fun c_17 => ?_)
    · skip
      refine z_iconst (v := 0) d_Se_isCurrent_24 (by decide) ?_
      exact z_zret rfl (by first | rfl | exact zb_nar _) (⟨by first | rw [show zcur ep epo j = false from by unfold zcur; rw [(zb_0 _).mp c_5]; rfl]; rfl | rw [show zcur ep epo j = true from by unfold zcur; rw [(zb_n0 _).mp c_5]; simp only [Bool.true_and, decide_eq_true_eq]; exact c_17]; rfl | rw [show zcur ep epo j = false from by unfold zcur; rw [(zb_n0 _).mp c_5]; simp only [Bool.true_and, decide_eq_false_iff_not, Decidable.not_not]; exact c_17]; rfl, rfl⟩) (by first | decide | omega) (by first | decide | omega) d_Se_isCurrent_25
    · skip
      refine z_iconst (v := 1) d_Se_isCurrent_20 (by decide) ?_
      refine z_goto 25 d_Se_isCurrent_21 (by decide) ?_
      exact z_zret rfl (by first | rfl | exact zb_nar _) (⟨by first | rw [show zcur ep epo j = false from by unfold zcur; rw [(zb_0 _).mp c_5]; rfl]; rfl | rw [show zcur ep epo j = true from by unfold zcur; rw [(zb_n0 _).mp c_5]; simp only [Bool.true_and, decide_eq_true_eq]; exact c_17]; rfl | rw [show zcur ep epo j = false from by unfold zcur; rw [(zb_n0 _).mp c_5]; simp only [Bool.true_and, decide_eq_false_iff_not, Decidable.not_not]; exact c_17]; rfl, rfl⟩) (by first | decide | omega) (by first | decide | omega) d_Se_isCurrent_25
theorem d_Se_isStale_0 : decode c_Se_isStale 0 = .ok (.aload_n 0, 1) := by decide +kernel
theorem d_Se_isStale_1 : decode c_Se_isStale 1 = .ok (.iload_n 1, 1) := by decide +kernel
theorem d_Se_isStale_2 : decode c_Se_isStale 2 = .ok (.invokevirtual 42, 3) := by decide +kernel
theorem d_Se_isStale_5 : decode c_Se_isStale 5 = .ok (.ifCond .eq 19, 3) := by decide +kernel
theorem d_Se_isStale_8 : decode c_Se_isStale 8 = .ok (.aload_n 0, 1) := by decide +kernel
theorem d_Se_isStale_9 : decode c_Se_isStale 9 = .ok (.iload_n 1, 1) := by decide +kernel
theorem d_Se_isStale_10 : decode c_Se_isStale 10 = .ok (.invokevirtual 38, 3) := by decide +kernel
theorem d_Se_isStale_13 : decode c_Se_isStale 13 = .ok (.aload_n 0, 1) := by decide +kernel
theorem d_Se_isStale_14 : decode c_Se_isStale 14 = .ok (.getfield 28, 3) := by decide +kernel
theorem d_Se_isStale_17 : decode c_Se_isStale 17 = .ok (.if_icmp .eq 7, 3) := by decide +kernel
theorem d_Se_isStale_20 : decode c_Se_isStale 20 = .ok (.iconst 1, 1) := by decide +kernel
theorem d_Se_isStale_21 : decode c_Se_isStale 21 = .ok (.goto 4, 3) := by decide +kernel
theorem d_Se_isStale_24 : decode c_Se_isStale 24 = .ok (.iconst 0, 1) := by decide +kernel
theorem d_Se_isStale_25 : decode c_Se_isStale 25 = .ok (.ireturn, 1) := by decide +kernel
set_option maxHeartbeats 4000000 in
set_option maxRecDepth 100000 in
theorem m_Se_isStale {g0 : State} {d : zD} {l : Launch} {a0 : Array Value} (hs0 : zS0 d a0 g0) (hst : l.stackTraces = false) {G : zG} {h hs he : Nat} {t z dt : Int32} {sh ep : Nat → Int32} {epo fr bl : Int32} {j : Nat} (hS : zSe d h hs he t z dt sh ep epo fr bl G) (hj : j < 8) : zMet g0 d l y_Se_isStale c_Se_isStale 2 ((Option.some Jvm.ClassFile.FieldType.boolean)) 3 0 0 [.ref h, .int (nI j)] (G) (zEq (some (.int (zb (zstl ep epo j)))) G) (zNo) := by
  obtain ⟨hG_Se, hG_s, hG_e, hne⟩ := id hS
  refine z_entry hs0 hst (by decide) (Nat.le_of_ble_eq_true rfl) (fun p e s m args below meth c => ?_)
  refine z_aload_n 0 d_Se_isStale_0 rfl rfl ?_
  refine z_iload_n 1 d_Se_isStale_1 rfl rfl ?_
  refine z_callV0 (m_Se_has hs0 hst hS hj) ym_Se_has qM_Se_42 qI_Se_has qV_Se_Se_has zc_Se hG_Se d_Se_isStale_2 rfl (Nat.le_of_ble_eq_true rfl) ⟨Nat.zero_le _, Nat.zero_le _⟩ ⟨Nat.le_of_ble_eq_true rfl, Nat.le_of_ble_eq_true rfl⟩ ?_
  refine z_if_eq 24 d_Se_isStale_5 (by decide) (fun c_5 => ?_) (fun c_5 => ?_)
  · skip
    refine z_iconst (v := 0) d_Se_isStale_24 (by decide) ?_
    exact z_zret rfl (by first | rfl | exact zb_nar _) (⟨by first | rw [show zstl ep epo j = false from by unfold zstl; rw [(zb_0 _).mp c_5]; rfl]; rfl | rw [show zstl ep epo j = true from by unfold zstl; rw [(zb_n0 _).mp c_5]; simp only [Bool.true_and, decide_eq_true_eq]; exact c_17]; rfl | rw [show zstl ep epo j = false from by unfold zstl; rw [(zb_n0 _).mp c_5]; simp only [Bool.true_and, decide_eq_false_iff_not, Decidable.not_not]; exact c_17]; rfl, rfl⟩) (by first | decide | omega) (by first | decide | omega) d_Se_isStale_25
  · skip
    refine z_aload_n 0 d_Se_isStale_8 rfl rfl ?_
    refine z_iload_n 1 d_Se_isStale_9 rfl rfl ?_
    refine z_callV0 (m_Se_epochOf hs0 hst hS hj) ym_Se_epochOf qM_Se_38 qI_Se_epochOf qV_Se_Se_epochOf zc_Se hG_Se d_Se_isStale_10 rfl (Nat.le_of_ble_eq_true rfl) ⟨Nat.zero_le _, Nat.zero_le _⟩ ⟨Nat.le_of_ble_eq_true rfl, Nat.le_of_ble_eq_true rfl⟩ ?_
    refine z_aload_n 0 d_Se_isStale_13 rfl rfl ?_
    refine z_get zc_Se 5 (by decide) qF_Se_28 hG_Se rfl d_Se_isStale_14 ?_
    refine z_icmp_eq 24 d_Se_isStale_17 (by decide) (fun c_17 => ?_) (fun c_17 => ?_)
    · skip
      refine z_iconst (v := 0) d_Se_isStale_24 (by decide) ?_
      exact z_zret rfl (by first | rfl | exact zb_nar _) (⟨by first | rw [show zstl ep epo j = false from by unfold zstl; rw [(zb_0 _).mp c_5]; rfl]; rfl | rw [show zstl ep epo j = true from by unfold zstl; rw [(zb_n0 _).mp c_5]; simp only [Bool.true_and, decide_eq_true_eq]; exact c_17]; rfl | rw [show zstl ep epo j = false from by unfold zstl; rw [(zb_n0 _).mp c_5]; simp only [Bool.true_and, decide_eq_false_iff_not, Decidable.not_not]; exact c_17]; rfl, rfl⟩) (by first | decide | omega) (by first | decide | omega) d_Se_isStale_25
    · skip
      refine z_iconst (v := 1) d_Se_isStale_20 (by decide) ?_
      refine z_goto 25 d_Se_isStale_21 (by decide) ?_
      exact z_zret rfl (by first | rfl | exact zb_nar _) (⟨by first | rw [show zstl ep epo j = false from by unfold zstl; rw [(zb_0 _).mp c_5]; rfl]; rfl | rw [show zstl ep epo j = true from by unfold zstl; rw [(zb_n0 _).mp c_5]; simp only [Bool.true_and, decide_eq_true_eq]; exact c_17]; rfl | rw [show zstl ep epo j = false from by unfold zstl; rw [(zb_n0 _).mp c_5]; simp only [Bool.true_and, decide_eq_false_iff_not, Decidable.not_not]; exact c_17]; rfl, rfl⟩) (by first | decide | omega) (by first | decide | omega) d_Se_isStale_25
theorem d_Se_put_0 : decode c_Se_put 0 = .ok (.iload_n 1, 1) := by decide +kernel
theorem d_Se_put_1 : decode c_Se_put 1 = .ok (.ifCond .lt 35, 3) := by decide +kernel
theorem d_Se_put_4 : decode c_Se_put 4 = .ok (.iload_n 1, 1) := by decide +kernel
theorem d_Se_put_5 : decode c_Se_put 5 = .ok (.aload_n 0, 1) := by decide +kernel
theorem d_Se_put_6 : decode c_Se_put 6 = .ok (.getfield 21, 3) := by decide +kernel
theorem d_Se_put_9 : decode c_Se_put 9 = .ok (.arraylength, 1) := by decide +kernel
theorem d_Se_put_10 : decode c_Se_put 10 = .ok (.if_icmp .ge 26, 3) := by decide +kernel
theorem d_Se_put_13 : decode c_Se_put 13 = .ok (.iload_n 1, 1) := by decide +kernel
theorem d_Se_put_14 : decode c_Se_put 14 = .ok (.aload_n 0, 1) := by decide +kernel
theorem d_Se_put_15 : decode c_Se_put 15 = .ok (.getfield 25, 3) := by decide +kernel
theorem d_Se_put_18 : decode c_Se_put 18 = .ok (.arraylength, 1) := by decide +kernel
theorem d_Se_put_19 : decode c_Se_put 19 = .ok (.if_icmp .ge 17, 3) := by decide +kernel
theorem d_Se_put_22 : decode c_Se_put 22 = .ok (.aload_n 0, 1) := by decide +kernel
theorem d_Se_put_23 : decode c_Se_put 23 = .ok (.getfield 21, 3) := by decide +kernel
theorem d_Se_put_26 : decode c_Se_put 26 = .ok (.iload_n 1, 1) := by decide +kernel
theorem d_Se_put_27 : decode c_Se_put 27 = .ok (.iload_n 2, 1) := by decide +kernel
theorem d_Se_put_28 : decode c_Se_put 28 = .ok (.iastore, 1) := by decide +kernel
theorem d_Se_put_29 : decode c_Se_put 29 = .ok (.aload_n 0, 1) := by decide +kernel
theorem d_Se_put_30 : decode c_Se_put 30 = .ok (.getfield 25, 3) := by decide +kernel
theorem d_Se_put_33 : decode c_Se_put 33 = .ok (.iload_n 1, 1) := by decide +kernel
theorem d_Se_put_34 : decode c_Se_put 34 = .ok (.iload_n 3, 1) := by decide +kernel
theorem d_Se_put_35 : decode c_Se_put 35 = .ok (.iastore, 1) := by decide +kernel
theorem d_Se_put_36 : decode c_Se_put 36 = .ok (.return_, 1) := by decide +kernel
set_option maxHeartbeats 4000000 in
set_option maxRecDepth 100000 in
theorem m_Se_put {g0 : State} {d : zD} {l : Launch} {a0 : Array Value} (hs0 : zS0 d a0 g0) (hst : l.stackTraces = false) {G : zG} {h hs he : Nat} {t z dt : Int32} {sh ep : Nat → Int32} {epo fr bl : Int32} {j : Nat} (x w : Int32) (hS : zSe d h hs he t z dt sh ep epo fr bl G) (hj : j < 8) : zMet g0 d l y_Se_put c_Se_put 4 ((Option.none : Option Jvm.ClassFile.FieldType)) 1 0 0 [.ref h, .int (nI j), .int x, .int w] (G) (zEq none (zu (zu G hs (zI d 8 (upd sh j x))) he (zI d 8 (upd ep j w)))) (zNo) := by
  obtain ⟨hG_Se, hG_s, hG_e, hne⟩ := id hS
  refine z_entry hs0 hst (by decide) (Nat.le_of_ble_eq_true rfl) (fun p e s m args below meth c => ?_)
  refine z_iload_n 1 d_Se_put_0 rfl rfl ?_
  refine z_if_lt 36 d_Se_put_1 (by decide) (fun c_1 => (by exfalso; simp (disch := omega) only [Int32.lt_iff_toInt_lt, Int32.le_iff_toInt_le, ← Int32.toInt_inj, nI_toInt, Int32.reduceToInt] at c_1; omega)) (fun c_1 => ?_)
  refine z_iload_n 1 d_Se_put_4 rfl rfl ?_
  refine z_aload_n 0 d_Se_put_5 rfl rfl ?_
  refine z_get zc_Se 3 (by decide) qF_Se_21 hG_Se rfl d_Se_put_6 ?_
  refine z_alenI hG_s d_Se_put_9 ?_
  refine z_icmp_ge 36 d_Se_put_10 (by decide) (fun c_10 => absurd c_10 (nI_ge hj (by decide))) (fun c_10 => ?_)
  refine z_iload_n 1 d_Se_put_13 rfl rfl ?_
  refine z_aload_n 0 d_Se_put_14 rfl rfl ?_
  refine z_get zc_Se 4 (by decide) qF_Se_25 hG_Se rfl d_Se_put_15 ?_
  refine z_alenI hG_e d_Se_put_18 ?_
  refine z_icmp_ge 36 d_Se_put_19 (by decide) (fun c_19 => absurd c_19 (nI_ge hj (by decide))) (fun c_19 => ?_)
  refine z_aload_n 0 d_Se_put_22 rfl rfl ?_
  refine z_get zc_Se 3 (by decide) qF_Se_21 hG_Se rfl d_Se_put_23 ?_
  refine z_iload_n 1 d_Se_put_26 rfl rfl ?_
  refine z_iload_n 2 d_Se_put_27 rfl rfl ?_
  refine z_iastN hG_s (hj) (by decide) d_Se_put_28 ?_
  have hG_Se := (zu_n (G := G) (v := zI d 8 (upd sh j x)) (zOI hG_Se hG_s)).trans hG_Se
  have hG_e := (zu_n (G := G) (v := zI d 8 (upd sh j x)) (Ne.symm hne)).trans hG_e
  refine z_aload_n 0 d_Se_put_29 rfl rfl ?_
  refine z_get zc_Se 4 (by decide) qF_Se_25 hG_Se rfl d_Se_put_30 ?_
  refine z_iload_n 1 d_Se_put_33 rfl rfl ?_
  refine z_iload_n 3 d_Se_put_34 rfl rfl ?_
  refine z_iastN hG_e (hj) (by decide) d_Se_put_35 ?_
  exact z_vret rfl (⟨rfl, rfl⟩) (by first | decide | omega) (by first | decide | omega) d_Se_put_36
theorem d_Se_hold_0 : decode c_Se_hold 0 = .ok (.aload_n 0, 1) := by decide +kernel
theorem d_Se_hold_1 : decode c_Se_hold 1 = .ok (.iload_n 1, 1) := by decide +kernel
theorem d_Se_hold_2 : decode c_Se_hold 2 = .ok (.iload_n 2, 1) := by decide +kernel
theorem d_Se_hold_3 : decode c_Se_hold 3 = .ok (.aload_n 0, 1) := by decide +kernel
theorem d_Se_hold_4 : decode c_Se_hold 4 = .ok (.getfield 28, 3) := by decide +kernel
theorem d_Se_hold_7 : decode c_Se_hold 7 = .ok (.invokevirtual 46, 3) := by decide +kernel
theorem d_Se_hold_10 : decode c_Se_hold 10 = .ok (.return_, 1) := by decide +kernel
set_option maxHeartbeats 4000000 in
set_option maxRecDepth 100000 in
theorem m_Se_hold {g0 : State} {d : zD} {l : Launch} {a0 : Array Value} (hs0 : zS0 d a0 g0) (hst : l.stackTraces = false) {G : zG} {h hs he : Nat} {t z dt : Int32} {sh ep : Nat → Int32} {epo fr bl : Int32} {j : Nat} (x : Int32) (hS : zSe d h hs he t z dt sh ep epo fr bl G) (hj : j < 8) : zMet g0 d l y_Se_hold c_Se_hold 3 ((Option.none : Option Jvm.ClassFile.FieldType)) 2 0 0 [.ref h, .int (nI j), .int x] (G) (zEq none (zu (zu G hs (zI d 8 (upd sh j x))) he (zI d 8 (upd ep j epo)))) (zNo) := by
  obtain ⟨hG_Se, hG_s, hG_e, hne⟩ := id hS
  refine z_entry hs0 hst (by decide) (Nat.le_of_ble_eq_true rfl) (fun p e s m args below meth c => ?_)
  refine z_aload_n 0 d_Se_hold_0 rfl rfl ?_
  refine z_iload_n 1 d_Se_hold_1 rfl rfl ?_
  refine z_iload_n 2 d_Se_hold_2 rfl rfl ?_
  refine z_aload_n 0 d_Se_hold_3 rfl rfl ?_
  refine z_get zc_Se 5 (by decide) qF_Se_28 hG_Se rfl d_Se_hold_4 ?_
  refine z_callV0 (m_Se_put hs0 hst x epo hS hj) ym_Se_put qM_Se_46 qI_Se_put qV_Se_Se_put zc_Se hG_Se d_Se_hold_7 rfl (Nat.le_of_ble_eq_true rfl) ⟨Nat.zero_le _, Nat.zero_le _⟩ ⟨Nat.le_of_ble_eq_true rfl, Nat.le_of_ble_eq_true rfl⟩ ?_
  exact z_vret rfl (⟨rfl, rfl⟩) (by first | decide | omega) (by first | decide | omega) d_Se_hold_10
theorem d_Se_lose_0 : decode c_Se_lose 0 = .ok (.aload_n 0, 1) := by decide +kernel
theorem d_Se_lose_1 : decode c_Se_lose 1 = .ok (.iload_n 1, 1) := by decide +kernel
theorem d_Se_lose_2 : decode c_Se_lose 2 = .ok (.iconst (-1), 1) := by decide +kernel
theorem d_Se_lose_3 : decode c_Se_lose 3 = .ok (.iconst (-1), 1) := by decide +kernel
theorem d_Se_lose_4 : decode c_Se_lose 4 = .ok (.invokevirtual 46, 3) := by decide +kernel
theorem d_Se_lose_7 : decode c_Se_lose 7 = .ok (.return_, 1) := by decide +kernel
set_option maxHeartbeats 4000000 in
set_option maxRecDepth 100000 in
theorem m_Se_lose {g0 : State} {d : zD} {l : Launch} {a0 : Array Value} (hs0 : zS0 d a0 g0) (hst : l.stackTraces = false) {G : zG} {h hs he : Nat} {t z dt : Int32} {sh ep : Nat → Int32} {epo fr bl : Int32} {j : Nat} (hS : zSe d h hs he t z dt sh ep epo fr bl G) (hj : j < 8) : zMet g0 d l y_Se_lose c_Se_lose 2 ((Option.none : Option Jvm.ClassFile.FieldType)) 2 0 0 [.ref h, .int (nI j)] (G) (zEq none (zu (zu G hs (zI d 8 (upd sh j (-1)))) he (zI d 8 (upd ep j (-1))))) (zNo) := by
  obtain ⟨hG_Se, hG_s, hG_e, hne⟩ := id hS
  refine z_entry hs0 hst (by decide) (Nat.le_of_ble_eq_true rfl) (fun p e s m args below meth c => ?_)
  refine z_aload_n 0 d_Se_lose_0 rfl rfl ?_
  refine z_iload_n 1 d_Se_lose_1 rfl rfl ?_
  refine z_iconst (v := (-1)) d_Se_lose_2 (by decide) ?_
  refine z_iconst (v := (-1)) d_Se_lose_3 (by decide) ?_
  refine z_callV0 (m_Se_put hs0 hst (-1) (-1) hS hj) ym_Se_put qM_Se_46 qI_Se_put qV_Se_Se_put zc_Se hG_Se d_Se_lose_4 rfl (Nat.le_of_ble_eq_true rfl) ⟨Nat.zero_le _, Nat.zero_le _⟩ ⟨Nat.le_of_ble_eq_true rfl, Nat.le_of_ble_eq_true rfl⟩ ?_
  exact z_vret rfl (⟨rfl, rfl⟩) (by first | decide | omega) (by first | decide | omega) d_Se_lose_7
theorem d_Se_currentSet_0 : decode c_Se_currentSet 0 = .ok (.iconst 0, 1) := by decide +kernel
theorem d_Se_currentSet_1 : decode c_Se_currentSet 1 = .ok (.istore_n 1, 1) := by decide +kernel
theorem d_Se_currentSet_2 : decode c_Se_currentSet 2 = .ok (.iconst 0, 1) := by decide +kernel
theorem d_Se_currentSet_3 : decode c_Se_currentSet 3 = .ok (.istore_n 2, 1) := by decide +kernel
theorem d_Se_currentSet_4 : decode c_Se_currentSet 4 = .ok (.iload_n 2, 1) := by decide +kernel
theorem d_Se_currentSet_5 : decode c_Se_currentSet 5 = .ok (.bipush 8, 2) := by decide +kernel
theorem d_Se_currentSet_7 : decode c_Se_currentSet 7 = .ok (.if_icmp .ge 23, 3) := by decide +kernel
theorem d_Se_currentSet_10 : decode c_Se_currentSet 10 = .ok (.aload_n 0, 1) := by decide +kernel
theorem d_Se_currentSet_11 : decode c_Se_currentSet 11 = .ok (.iload_n 2, 1) := by decide +kernel
theorem d_Se_currentSet_12 : decode c_Se_currentSet 12 = .ok (.invokevirtual 50, 3) := by decide +kernel
theorem d_Se_currentSet_15 : decode c_Se_currentSet 15 = .ok (.ifCond .eq 9, 3) := by decide +kernel
theorem d_Se_currentSet_18 : decode c_Se_currentSet 18 = .ok (.iload_n 1, 1) := by decide +kernel
theorem d_Se_currentSet_19 : decode c_Se_currentSet 19 = .ok (.iconst 1, 1) := by decide +kernel
theorem d_Se_currentSet_20 : decode c_Se_currentSet 20 = .ok (.iload_n 2, 1) := by decide +kernel
theorem d_Se_currentSet_21 : decode c_Se_currentSet 21 = .ok (.ishl, 1) := by decide +kernel
theorem d_Se_currentSet_22 : decode c_Se_currentSet 22 = .ok (.ior, 1) := by decide +kernel
theorem d_Se_currentSet_23 : decode c_Se_currentSet 23 = .ok (.istore_n 1, 1) := by decide +kernel
theorem d_Se_currentSet_24 : decode c_Se_currentSet 24 = .ok (.iinc 2 1, 3) := by decide +kernel
theorem d_Se_currentSet_27 : decode c_Se_currentSet 27 = .ok (.goto (-23), 3) := by decide +kernel
theorem d_Se_currentSet_30 : decode c_Se_currentSet 30 = .ok (.iload_n 1, 1) := by decide +kernel
theorem d_Se_currentSet_31 : decode c_Se_currentSet 31 = .ok (.ireturn, 1) := by decide +kernel
set_option maxHeartbeats 4000000 in
set_option maxRecDepth 100000 in
theorem m_Se_currentSet {g0 : State} {d : zD} {l : Launch} {a0 : Array Value} (hs0 : zS0 d a0 g0) (hst : l.stackTraces = false) {G : zG} {h hs he : Nat} {t z dt : Int32} {sh ep : Nat → Int32} {epo fr bl : Int32} (hS : zSe d h hs he t z dt sh ep epo fr bl G) : zMet g0 d l y_Se_currentSet c_Se_currentSet 3 ((Option.some Jvm.ClassFile.FieldType.int)) 4 0 0 [.ref h] (G) (zEq (some (.int (zset (zcur ep epo) 8))) G) (zNo) := by
  obtain ⟨hG_Se, hG_s, hG_e, hne⟩ := id hS
  refine z_entry hs0 hst (by decide) (Nat.le_of_ble_eq_true rfl) (fun p e s m args below meth c => ?_)
  refine z_iconst (v := (nI 0)) d_Se_currentSet_0 (by decide) ?_
  refine z_istore_n (L' := [(1, _), (0, _)]) d_Se_currentSet_1 rfl (by decide) rfl ?_
  refine z_iconst (v := (nI 0)) d_Se_currentSet_2 (by decide) ?_
  refine z_istore_n (L' := [(2, _), (1, _), (0, _)]) d_Se_currentSet_3 rfl (by decide) rfl ?_
  have key_4 : ∀ (n : Nat) (i : Nat), 8 - i < n → (i ≤ 8) → Z g0 d y_Se_currentSet c_Se_currentSet 3 ((Option.some Jvm.ClassFile.FieldType.int)) [] p l e (zR 4 0 0) s m args below meth c (vx_MQ below (zQc g0 d (zEq (some (.int (zset (zcur ep epo) 8))) G)) (zXc g0 d (zNo)) args s 0 0 (zA g0)) 0 0 (G) [(2, .int (nI i)), (1, .int (zset (zcur ep epo) i)), (0, .ref h)] [] 4 := by
    intro n
    induction n with
    | zero => intro i h0; exact absurd h0 (Nat.not_lt_zero _)
    | succ n ih_4 =>
      intro i hm_4 hi
      refine z_iload_n 0 d_Se_currentSet_4 rfl rfl ?_
      refine z_bipush (v := 8) d_Se_currentSet_5 (by decide) ?_
      refine z_icmp_ge 30 d_Se_currentSet_7 (by decide) (fun c_7 => ?_) (fun c_7 => ?_)
      · skip
        obtain rfl : i = 8 := by
          have := c_7
          simp (disch := omega) only [Int32.le_iff_toInt_le, nI_toInt, Int32.reduceToInt] at this; omega
        refine z_iload_n 1 d_Se_currentSet_30 rfl rfl ?_
        exact z_iret rfl (⟨rfl, rfl⟩) (by first | decide | omega) (by first | decide | omega) d_Se_currentSet_31
      · skip
        have hi8 : i < 8 := (by simp (disch := omega) only [Int32.lt_iff_toInt_lt, Int32.le_iff_toInt_le, ← Int32.toInt_inj, nI_toInt, Int32.reduceToInt] at c_7; omega)
        refine z_aload_n 2 d_Se_currentSet_10 rfl rfl ?_
        refine z_iload_n 0 d_Se_currentSet_11 rfl rfl ?_
        refine z_callV0 (m_Se_isCurrent hs0 hst hS hi8) ym_Se_isCurrent qM_Se_50 qI_Se_isCurrent qV_Se_Se_isCurrent zc_Se hG_Se d_Se_currentSet_12 rfl (Nat.le_of_ble_eq_true rfl) ⟨Nat.zero_le _, Nat.zero_le _⟩ ⟨Nat.le_of_ble_eq_true rfl, Nat.le_of_ble_eq_true rfl⟩ ?_
        refine z_if_eq 24 d_Se_currentSet_15 (by decide) (fun c_15 => ?_) (fun c_15 => ?_)
        · skip
          rw [zset_f (f := zcur ep epo) c_15]
          refine z_iinc (v := nI (i + 1)) (L' := [(2, _), (1, _), (0, _)]) 0 d_Se_currentSet_24 rfl (nI_1 i) (by decide) rfl ?_
          refine z_goto 4 d_Se_currentSet_27 (by decide) ?_
          exact ih_4 (i + 1) (by omega) (by omega)
        · skip
          have e_15 := zset_t (f := zcur ep epo) c_15
          refine z_iload_n 1 d_Se_currentSet_18 rfl rfl ?_
          refine z_iconst (v := 1) d_Se_currentSet_19 (by decide) ?_
          refine z_iload_n 0 d_Se_currentSet_20 rfl rfl ?_
          refine z_ishl d_Se_currentSet_21 ?_
          refine z_ior d_Se_currentSet_22 ?_
          refine z_topv e_15 ?_
          refine z_istore_n (L' := [(1, _), (2, _), (0, _)]) d_Se_currentSet_23 rfl (by decide) rfl ?_
          refine z_iinc (v := nI (i + 1)) (L' := [(2, _), (1, _), (0, _)]) 1 d_Se_currentSet_24 rfl (nI_1 i) (by decide) rfl ?_
          refine z_goto 4 d_Se_currentSet_27 (by decide) ?_
          exact ih_4 (i + 1) (by omega) (by omega)
  exact key_4 9 0 (by omega) (by omega)
theorem d_Se_staleSet_0 : decode c_Se_staleSet 0 = .ok (.iconst 0, 1) := by decide +kernel
theorem d_Se_staleSet_1 : decode c_Se_staleSet 1 = .ok (.istore_n 1, 1) := by decide +kernel
theorem d_Se_staleSet_2 : decode c_Se_staleSet 2 = .ok (.iconst 0, 1) := by decide +kernel
theorem d_Se_staleSet_3 : decode c_Se_staleSet 3 = .ok (.istore_n 2, 1) := by decide +kernel
theorem d_Se_staleSet_4 : decode c_Se_staleSet 4 = .ok (.iload_n 2, 1) := by decide +kernel
theorem d_Se_staleSet_5 : decode c_Se_staleSet 5 = .ok (.bipush 8, 2) := by decide +kernel
theorem d_Se_staleSet_7 : decode c_Se_staleSet 7 = .ok (.if_icmp .ge 23, 3) := by decide +kernel
theorem d_Se_staleSet_10 : decode c_Se_staleSet 10 = .ok (.aload_n 0, 1) := by decide +kernel
theorem d_Se_staleSet_11 : decode c_Se_staleSet 11 = .ok (.iload_n 2, 1) := by decide +kernel
theorem d_Se_staleSet_12 : decode c_Se_staleSet 12 = .ok (.invokevirtual 53, 3) := by decide +kernel
theorem d_Se_staleSet_15 : decode c_Se_staleSet 15 = .ok (.ifCond .eq 9, 3) := by decide +kernel
theorem d_Se_staleSet_18 : decode c_Se_staleSet 18 = .ok (.iload_n 1, 1) := by decide +kernel
theorem d_Se_staleSet_19 : decode c_Se_staleSet 19 = .ok (.iconst 1, 1) := by decide +kernel
theorem d_Se_staleSet_20 : decode c_Se_staleSet 20 = .ok (.iload_n 2, 1) := by decide +kernel
theorem d_Se_staleSet_21 : decode c_Se_staleSet 21 = .ok (.ishl, 1) := by decide +kernel
theorem d_Se_staleSet_22 : decode c_Se_staleSet 22 = .ok (.ior, 1) := by decide +kernel
theorem d_Se_staleSet_23 : decode c_Se_staleSet 23 = .ok (.istore_n 1, 1) := by decide +kernel
theorem d_Se_staleSet_24 : decode c_Se_staleSet 24 = .ok (.iinc 2 1, 3) := by decide +kernel
theorem d_Se_staleSet_27 : decode c_Se_staleSet 27 = .ok (.goto (-23), 3) := by decide +kernel
theorem d_Se_staleSet_30 : decode c_Se_staleSet 30 = .ok (.iload_n 1, 1) := by decide +kernel
theorem d_Se_staleSet_31 : decode c_Se_staleSet 31 = .ok (.ireturn, 1) := by decide +kernel
set_option maxHeartbeats 4000000 in
set_option maxRecDepth 100000 in
theorem m_Se_staleSet {g0 : State} {d : zD} {l : Launch} {a0 : Array Value} (hs0 : zS0 d a0 g0) (hst : l.stackTraces = false) {G : zG} {h hs he : Nat} {t z dt : Int32} {sh ep : Nat → Int32} {epo fr bl : Int32} (hS : zSe d h hs he t z dt sh ep epo fr bl G) : zMet g0 d l y_Se_staleSet c_Se_staleSet 3 ((Option.some Jvm.ClassFile.FieldType.int)) 4 0 0 [.ref h] (G) (zEq (some (.int (zset (zstl ep epo) 8))) G) (zNo) := by
  obtain ⟨hG_Se, hG_s, hG_e, hne⟩ := id hS
  refine z_entry hs0 hst (by decide) (Nat.le_of_ble_eq_true rfl) (fun p e s m args below meth c => ?_)
  refine z_iconst (v := (nI 0)) d_Se_staleSet_0 (by decide) ?_
  refine z_istore_n (L' := [(1, _), (0, _)]) d_Se_staleSet_1 rfl (by decide) rfl ?_
  refine z_iconst (v := (nI 0)) d_Se_staleSet_2 (by decide) ?_
  refine z_istore_n (L' := [(2, _), (1, _), (0, _)]) d_Se_staleSet_3 rfl (by decide) rfl ?_
  have key_4 : ∀ (n : Nat) (i : Nat), 8 - i < n → (i ≤ 8) → Z g0 d y_Se_staleSet c_Se_staleSet 3 ((Option.some Jvm.ClassFile.FieldType.int)) [] p l e (zR 4 0 0) s m args below meth c (vx_MQ below (zQc g0 d (zEq (some (.int (zset (zstl ep epo) 8))) G)) (zXc g0 d (zNo)) args s 0 0 (zA g0)) 0 0 (G) [(2, .int (nI i)), (1, .int (zset (zstl ep epo) i)), (0, .ref h)] [] 4 := by
    intro n
    induction n with
    | zero => intro i h0; exact absurd h0 (Nat.not_lt_zero _)
    | succ n ih_4 =>
      intro i hm_4 hi
      refine z_iload_n 0 d_Se_staleSet_4 rfl rfl ?_
      refine z_bipush (v := 8) d_Se_staleSet_5 (by decide) ?_
      refine z_icmp_ge 30 d_Se_staleSet_7 (by decide) (fun c_7 => ?_) (fun c_7 => ?_)
      · skip
        obtain rfl : i = 8 := by
          have := c_7
          simp (disch := omega) only [Int32.le_iff_toInt_le, nI_toInt, Int32.reduceToInt] at this; omega
        refine z_iload_n 1 d_Se_staleSet_30 rfl rfl ?_
        exact z_iret rfl (⟨rfl, rfl⟩) (by first | decide | omega) (by first | decide | omega) d_Se_staleSet_31
      · skip
        have hi8 : i < 8 := (by simp (disch := omega) only [Int32.lt_iff_toInt_lt, Int32.le_iff_toInt_le, ← Int32.toInt_inj, nI_toInt, Int32.reduceToInt] at c_7; omega)
        refine z_aload_n 2 d_Se_staleSet_10 rfl rfl ?_
        refine z_iload_n 0 d_Se_staleSet_11 rfl rfl ?_
        refine z_callV0 (m_Se_isStale hs0 hst hS hi8) ym_Se_isStale qM_Se_53 qI_Se_isStale qV_Se_Se_isStale zc_Se hG_Se d_Se_staleSet_12 rfl (Nat.le_of_ble_eq_true rfl) ⟨Nat.zero_le _, Nat.zero_le _⟩ ⟨Nat.le_of_ble_eq_true rfl, Nat.le_of_ble_eq_true rfl⟩ ?_
        refine z_if_eq 24 d_Se_staleSet_15 (by decide) (fun c_15 => ?_) (fun c_15 => ?_)
        · skip
          rw [zset_f (f := zstl ep epo) c_15]
          refine z_iinc (v := nI (i + 1)) (L' := [(2, _), (1, _), (0, _)]) 0 d_Se_staleSet_24 rfl (nI_1 i) (by decide) rfl ?_
          refine z_goto 4 d_Se_staleSet_27 (by decide) ?_
          exact ih_4 (i + 1) (by omega) (by omega)
        · skip
          have e_15 := zset_t (f := zstl ep epo) c_15
          refine z_iload_n 1 d_Se_staleSet_18 rfl rfl ?_
          refine z_iconst (v := 1) d_Se_staleSet_19 (by decide) ?_
          refine z_iload_n 0 d_Se_staleSet_20 rfl rfl ?_
          refine z_ishl d_Se_staleSet_21 ?_
          refine z_ior d_Se_staleSet_22 ?_
          refine z_topv e_15 ?_
          refine z_istore_n (L' := [(1, _), (2, _), (0, _)]) d_Se_staleSet_23 rfl (by decide) rfl ?_
          refine z_iinc (v := nI (i + 1)) (L' := [(2, _), (1, _), (0, _)]) 1 d_Se_staleSet_24 rfl (nI_1 i) (by decide) rfl ?_
          refine z_goto 4 d_Se_staleSet_27 (by decide) ?_
          exact ih_4 (i + 1) (by omega) (by omega)
  exact key_4 9 0 (by omega) (by omega)

/-- Integer.bitCount, as it reckons -/
def zbc (x : Int32) : Int32 :=
  let sh := fun (a : Int32) (k : Int32) => (a.toUInt32 >>> (k.toUInt32 &&& Int32.toUInt32 31)).toInt32
  let a := x - (sh x 1 &&& 1431655765)
  let b := (a &&& 858993459) + (sh a 2 &&& 858993459)
  let c := (b + sh b 4) &&& 252645135
  let e := c + sh c 8
  (e + sh e 16) &&& 63
/-- how many of the lowest bits are set -/
def zpop : Nat → Nat → Nat
  | 0, _ => 0
  | k + 1, n => n % 2 + zpop k (n / 2)
theorem zbc_512 : ∀ n, n < 512 → zbc (nI n) = nI (zpop 9 n) := by decide +kernel
theorem zpop_le : ∀ n, n < 512 → zpop 9 n ≤ 9 := by decide +kernel

theorem d_In_bitCount_0 : decode c_In_bitCount 0 = .ok (.iload_n 0, 1) := by decide +kernel
theorem d_In_bitCount_1 : decode c_In_bitCount 1 = .ok (.iload_n 0, 1) := by decide +kernel
theorem d_In_bitCount_2 : decode c_In_bitCount 2 = .ok (.iconst 1, 1) := by decide +kernel
theorem d_In_bitCount_3 : decode c_In_bitCount 3 = .ok (.iushr, 1) := by decide +kernel
theorem d_In_bitCount_4 : decode c_In_bitCount 4 = .ok (.ldc_w 265, 3) := by decide +kernel
theorem d_In_bitCount_7 : decode c_In_bitCount 7 = .ok (.iand, 1) := by decide +kernel
theorem d_In_bitCount_8 : decode c_In_bitCount 8 = .ok (.isub, 1) := by decide +kernel
theorem d_In_bitCount_9 : decode c_In_bitCount 9 = .ok (.istore_n 0, 1) := by decide +kernel
theorem d_In_bitCount_10 : decode c_In_bitCount 10 = .ok (.iload_n 0, 1) := by decide +kernel
theorem d_In_bitCount_11 : decode c_In_bitCount 11 = .ok (.ldc_w 266, 3) := by decide +kernel
theorem d_In_bitCount_14 : decode c_In_bitCount 14 = .ok (.iand, 1) := by decide +kernel
theorem d_In_bitCount_15 : decode c_In_bitCount 15 = .ok (.iload_n 0, 1) := by decide +kernel
theorem d_In_bitCount_16 : decode c_In_bitCount 16 = .ok (.iconst 2, 1) := by decide +kernel
theorem d_In_bitCount_17 : decode c_In_bitCount 17 = .ok (.iushr, 1) := by decide +kernel
theorem d_In_bitCount_18 : decode c_In_bitCount 18 = .ok (.ldc_w 266, 3) := by decide +kernel
theorem d_In_bitCount_21 : decode c_In_bitCount 21 = .ok (.iand, 1) := by decide +kernel
theorem d_In_bitCount_22 : decode c_In_bitCount 22 = .ok (.iadd, 1) := by decide +kernel
theorem d_In_bitCount_23 : decode c_In_bitCount 23 = .ok (.istore_n 0, 1) := by decide +kernel
theorem d_In_bitCount_24 : decode c_In_bitCount 24 = .ok (.iload_n 0, 1) := by decide +kernel
theorem d_In_bitCount_25 : decode c_In_bitCount 25 = .ok (.iload_n 0, 1) := by decide +kernel
theorem d_In_bitCount_26 : decode c_In_bitCount 26 = .ok (.iconst 4, 1) := by decide +kernel
theorem d_In_bitCount_27 : decode c_In_bitCount 27 = .ok (.iushr, 1) := by decide +kernel
theorem d_In_bitCount_28 : decode c_In_bitCount 28 = .ok (.iadd, 1) := by decide +kernel
theorem d_In_bitCount_29 : decode c_In_bitCount 29 = .ok (.ldc_w 267, 3) := by decide +kernel
theorem d_In_bitCount_32 : decode c_In_bitCount 32 = .ok (.iand, 1) := by decide +kernel
theorem d_In_bitCount_33 : decode c_In_bitCount 33 = .ok (.istore_n 0, 1) := by decide +kernel
theorem d_In_bitCount_34 : decode c_In_bitCount 34 = .ok (.iload_n 0, 1) := by decide +kernel
theorem d_In_bitCount_35 : decode c_In_bitCount 35 = .ok (.iload_n 0, 1) := by decide +kernel
theorem d_In_bitCount_36 : decode c_In_bitCount 36 = .ok (.bipush 8, 2) := by decide +kernel
theorem d_In_bitCount_38 : decode c_In_bitCount 38 = .ok (.iushr, 1) := by decide +kernel
theorem d_In_bitCount_39 : decode c_In_bitCount 39 = .ok (.iadd, 1) := by decide +kernel
theorem d_In_bitCount_40 : decode c_In_bitCount 40 = .ok (.istore_n 0, 1) := by decide +kernel
theorem d_In_bitCount_41 : decode c_In_bitCount 41 = .ok (.iload_n 0, 1) := by decide +kernel
theorem d_In_bitCount_42 : decode c_In_bitCount 42 = .ok (.iload_n 0, 1) := by decide +kernel
theorem d_In_bitCount_43 : decode c_In_bitCount 43 = .ok (.bipush 16, 2) := by decide +kernel
theorem d_In_bitCount_45 : decode c_In_bitCount 45 = .ok (.iushr, 1) := by decide +kernel
theorem d_In_bitCount_46 : decode c_In_bitCount 46 = .ok (.iadd, 1) := by decide +kernel
theorem d_In_bitCount_47 : decode c_In_bitCount 47 = .ok (.istore_n 0, 1) := by decide +kernel
theorem d_In_bitCount_48 : decode c_In_bitCount 48 = .ok (.iload_n 0, 1) := by decide +kernel
theorem d_In_bitCount_49 : decode c_In_bitCount 49 = .ok (.bipush 63, 2) := by decide +kernel
theorem d_In_bitCount_51 : decode c_In_bitCount 51 = .ok (.iand, 1) := by decide +kernel
theorem d_In_bitCount_52 : decode c_In_bitCount 52 = .ok (.ireturn, 1) := by decide +kernel
set_option maxHeartbeats 4000000 in
set_option maxRecDepth 100000 in
theorem m_In_bitCount {g0 : State} {d : zD} {l : Launch} {a0 : Array Value} (hs0 : zS0 d a0 g0) (hst : l.stackTraces = false) {G : zG} (x : Int32) : zMet g0 d l y_In_bitCount c_In_bitCount 1 ((Option.some Jvm.ClassFile.FieldType.int)) 1 0 0 [.int x] (G) (zEq (some (.int (zbc x))) G) (zNo) := by
  refine z_entryF hs0 hst (by decide +kernel) (Nat.le_of_ble_eq_true rfl) (fun p e s m args below meth c => ?_)
  refine z_iload_n 0 d_In_bitCount_0 rfl rfl ?_
  refine z_iload_n 0 d_In_bitCount_1 rfl rfl ?_
  refine z_iconst (v := 1) d_In_bitCount_2 (by decide) ?_
  refine z_iushr d_In_bitCount_3 rfl ?_
  refine z_ldcw qX_In_265 d_In_bitCount_4 ?_
  refine z_iand d_In_bitCount_7 ?_
  refine z_isub d_In_bitCount_8 ?_
  refine z_istore_n (L' := [(0, _)]) d_In_bitCount_9 rfl (by decide) rfl ?_
  refine z_iload_n 0 d_In_bitCount_10 rfl rfl ?_
  refine z_ldcw qX_In_266 d_In_bitCount_11 ?_
  refine z_iand d_In_bitCount_14 ?_
  refine z_iload_n 0 d_In_bitCount_15 rfl rfl ?_
  refine z_iconst (v := 2) d_In_bitCount_16 (by decide) ?_
  refine z_iushr d_In_bitCount_17 rfl ?_
  refine z_ldcw qX_In_266 d_In_bitCount_18 ?_
  refine z_iand d_In_bitCount_21 ?_
  refine z_iadd d_In_bitCount_22 ?_
  refine z_istore_n (L' := [(0, _)]) d_In_bitCount_23 rfl (by decide) rfl ?_
  refine z_iload_n 0 d_In_bitCount_24 rfl rfl ?_
  refine z_iload_n 0 d_In_bitCount_25 rfl rfl ?_
  refine z_iconst (v := 4) d_In_bitCount_26 (by decide) ?_
  refine z_iushr d_In_bitCount_27 rfl ?_
  refine z_iadd d_In_bitCount_28 ?_
  refine z_ldcw qX_In_267 d_In_bitCount_29 ?_
  refine z_iand d_In_bitCount_32 ?_
  refine z_istore_n (L' := [(0, _)]) d_In_bitCount_33 rfl (by decide) rfl ?_
  refine z_iload_n 0 d_In_bitCount_34 rfl rfl ?_
  refine z_iload_n 0 d_In_bitCount_35 rfl rfl ?_
  refine z_bipush (v := 8) d_In_bitCount_36 (by decide) ?_
  refine z_iushr d_In_bitCount_38 rfl ?_
  refine z_iadd d_In_bitCount_39 ?_
  refine z_istore_n (L' := [(0, _)]) d_In_bitCount_40 rfl (by decide) rfl ?_
  refine z_iload_n 0 d_In_bitCount_41 rfl rfl ?_
  refine z_iload_n 0 d_In_bitCount_42 rfl rfl ?_
  refine z_bipush (v := 16) d_In_bitCount_43 (by decide) ?_
  refine z_iushr d_In_bitCount_45 rfl ?_
  refine z_iadd d_In_bitCount_46 ?_
  refine z_istore_n (L' := [(0, _)]) d_In_bitCount_47 rfl (by decide) rfl ?_
  refine z_iload_n 0 d_In_bitCount_48 rfl rfl ?_
  refine z_bipush (v := 63) d_In_bitCount_49 (by decide) ?_
  refine z_iand d_In_bitCount_51 ?_
  exact z_iret rfl (⟨rfl, rfl⟩) (by first | decide | omega) (by first | decide | omega) d_In_bitCount_52
