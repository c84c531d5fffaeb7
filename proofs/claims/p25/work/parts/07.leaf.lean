
/-- int k is within low and high -/
def zin (k lo hi : Int32) : Bool := decide (lo ≤ k) && decide (k ≤ hi)
theorem zin_t {k lo hi : Int32} (h1 : ¬ k < lo) (h2 : ¬ hi < k) : zin k lo hi = true := by
  simp only [zin, Bool.and_eq_true, decide_eq_true_eq, Int32.lt_iff_toInt_lt, Int32.le_iff_toInt_le] at *
  omega
theorem zin_f1 {k lo hi : Int32} (h1 : k < lo) : zin k lo hi = false := by
  simp only [zin, Bool.and_eq_false_iff, decide_eq_false_iff_not, Int32.lt_iff_toInt_lt, Int32.le_iff_toInt_le] at *
  omega
theorem zin_f2 {k lo hi : Int32} (h1 : hi < k) : zin k lo hi = false := by
  simp only [zin, Bool.and_eq_false_iff, decide_eq_false_iff_not, Int32.lt_iff_toInt_lt, Int32.le_iff_toInt_le] at *
  omega
/-- bit k of a set, as javac's set >> k & 1 -/
def zbit (set k : Int32) : Int32 := (set >>> (k &&& 31)) &&& 1
theorem z_some_int {a b : Int32} (h : a = b) : (some (Value.int a)) = some (Value.int b) := by rw [h]

theorem d_Tb_isFrom_0 : decode c_Tb_isFrom 0 = .ok (.iload_n 0, 1) := by decide +kernel
theorem d_Tb_isFrom_1 : decode c_Tb_isFrom 1 = .ok (.iload_n 1, 1) := by decide +kernel
theorem d_Tb_isFrom_2 : decode c_Tb_isFrom 2 = .ok (.if_icmp .lt 12, 3) := by decide +kernel
theorem d_Tb_isFrom_5 : decode c_Tb_isFrom 5 = .ok (.iload_n 0, 1) := by decide +kernel
theorem d_Tb_isFrom_6 : decode c_Tb_isFrom 6 = .ok (.iload_n 2, 1) := by decide +kernel
theorem d_Tb_isFrom_7 : decode c_Tb_isFrom 7 = .ok (.if_icmp .gt 7, 3) := by decide +kernel
theorem d_Tb_isFrom_10 : decode c_Tb_isFrom 10 = .ok (.iconst 1, 1) := by decide +kernel
theorem d_Tb_isFrom_11 : decode c_Tb_isFrom 11 = .ok (.goto 4, 3) := by decide +kernel
theorem d_Tb_isFrom_14 : decode c_Tb_isFrom 14 = .ok (.iconst 0, 1) := by decide +kernel
theorem d_Tb_isFrom_15 : decode c_Tb_isFrom 15 = .ok (.ireturn, 1) := by decide +kernel
set_option maxHeartbeats 4000000 in
set_option maxRecDepth 100000 in
theorem m_Tb_isFrom {g0 : State} {d : zD} {l : Launch} {a0 : Array Value} (hs0 : zS0 d a0 g0) (hst : l.stackTraces = false) {G : zG} (k lo hi : Int32) : zMet g0 d l y_Tb_isFrom c_Tb_isFrom 3 ((Option.some Jvm.ClassFile.FieldType.boolean)) 1 0 0 [.int k, .int lo, .int hi] (G) (zEq (some (.int (zb (zin k lo hi)))) G) (zNo) := by
  refine z_entry hs0 hst (by decide) (Nat.le_of_ble_eq_true rfl) (fun p e s m args below meth c => ?_)
  refine z_iload_n 0 d_Tb_isFrom_0 rfl rfl ?_
  refine z_iload_n 1 d_Tb_isFrom_1 rfl rfl ?_
  refine z_icmp_lt 14 d_Tb_isFrom_2 (by decide) (fun c_2 => ?_) (fun c_2 => ?_)
  · skip
    refine z_iconst (v := 0) d_Tb_isFrom_14 (by decide) ?_
    exact z_zret rfl (by first | rfl | exact zb_nar _) (⟨by first | rw [zin_t c_2 c_7]; rfl | rw [zin_f1 c_2]; rfl | rw [zin_f2 c_7]; rfl, rfl⟩) (by first | decide | omega) (by first | decide | omega) d_Tb_isFrom_15
  · skip
    refine z_iload_n 0 d_Tb_isFrom_5 rfl rfl ?_
    refine z_iload_n 2 d_Tb_isFrom_6 rfl rfl ?_
    refine z_icmp_gt 14 d_Tb_isFrom_7 (by decide) (fun c_7 => ?_) (fun c_7 => ?_)
    · skip
      refine z_iconst (v := 0) d_Tb_isFrom_14 (by decide) ?_
      exact z_zret rfl (by first | rfl | exact zb_nar _) (⟨by first | rw [zin_t c_2 c_7]; rfl | rw [zin_f1 c_2]; rfl | rw [zin_f2 c_7]; rfl, rfl⟩) (by first | decide | omega) (by first | decide | omega) d_Tb_isFrom_15
    · skip
      refine z_iconst (v := 1) d_Tb_isFrom_10 (by decide) ?_
      refine z_goto 15 d_Tb_isFrom_11 (by decide) ?_
      exact z_zret rfl (by first | rfl | exact zb_nar _) (⟨by first | rw [zin_t c_2 c_7]; rfl | rw [zin_f1 c_2]; rfl | rw [zin_f2 c_7]; rfl, rfl⟩) (by first | decide | omega) (by first | decide | omega) d_Tb_isFrom_15
theorem d_Mo_in_0 : decode c_Mo_in 0 = .ok (.iload_n 0, 1) := by decide +kernel
theorem d_Mo_in_1 : decode c_Mo_in 1 = .ok (.iload_n 1, 1) := by decide +kernel
theorem d_Mo_in_2 : decode c_Mo_in 2 = .ok (.if_icmp .lt 12, 3) := by decide +kernel
theorem d_Mo_in_5 : decode c_Mo_in 5 = .ok (.iload_n 0, 1) := by decide +kernel
theorem d_Mo_in_6 : decode c_Mo_in 6 = .ok (.iload_n 2, 1) := by decide +kernel
theorem d_Mo_in_7 : decode c_Mo_in 7 = .ok (.if_icmp .gt 7, 3) := by decide +kernel
theorem d_Mo_in_10 : decode c_Mo_in 10 = .ok (.iconst 1, 1) := by decide +kernel
theorem d_Mo_in_11 : decode c_Mo_in 11 = .ok (.goto 4, 3) := by decide +kernel
theorem d_Mo_in_14 : decode c_Mo_in 14 = .ok (.iconst 0, 1) := by decide +kernel
theorem d_Mo_in_15 : decode c_Mo_in 15 = .ok (.ireturn, 1) := by decide +kernel
set_option maxHeartbeats 4000000 in
set_option maxRecDepth 100000 in
theorem m_Mo_in {g0 : State} {d : zD} {l : Launch} {a0 : Array Value} (hs0 : zS0 d a0 g0) (hst : l.stackTraces = false) {G : zG} (k lo hi : Int32) : zMet g0 d l y_Mo_in c_Mo_in 3 ((Option.some Jvm.ClassFile.FieldType.boolean)) 1 0 0 [.int k, .int lo, .int hi] (G) (zEq (some (.int (zb (zin k lo hi)))) G) (zNo) := by
  refine z_entry hs0 hst (by decide) (Nat.le_of_ble_eq_true rfl) (fun p e s m args below meth c => ?_)
  refine z_iload_n 0 d_Mo_in_0 rfl rfl ?_
  refine z_iload_n 1 d_Mo_in_1 rfl rfl ?_
  refine z_icmp_lt 14 d_Mo_in_2 (by decide) (fun c_2 => ?_) (fun c_2 => ?_)
  · skip
    refine z_iconst (v := 0) d_Mo_in_14 (by decide) ?_
    exact z_zret rfl (by first | rfl | exact zb_nar _) (⟨by first | rw [zin_t c_2 c_7]; rfl | rw [zin_f1 c_2]; rfl | rw [zin_f2 c_7]; rfl, rfl⟩) (by first | decide | omega) (by first | decide | omega) d_Mo_in_15
  · skip
    refine z_iload_n 0 d_Mo_in_5 rfl rfl ?_
    refine z_iload_n 2 d_Mo_in_6 rfl rfl ?_
    refine z_icmp_gt 14 d_Mo_in_7 (by decide) (fun c_7 => ?_) (fun c_7 => ?_)
    · skip
      refine z_iconst (v := 0) d_Mo_in_14 (by decide) ?_
      exact z_zret rfl (by first | rfl | exact zb_nar _) (⟨by first | rw [zin_t c_2 c_7]; rfl | rw [zin_f1 c_2]; rfl | rw [zin_f2 c_7]; rfl, rfl⟩) (by first | decide | omega) (by first | decide | omega) d_Mo_in_15
    · skip
      refine z_iconst (v := 1) d_Mo_in_10 (by decide) ?_
      refine z_goto 15 d_Mo_in_11 (by decide) ?_
      exact z_zret rfl (by first | rfl | exact zb_nar _) (⟨by first | rw [zin_t c_2 c_7]; rfl | rw [zin_f1 c_2]; rfl | rw [zin_f2 c_7]; rfl, rfl⟩) (by first | decide | omega) (by first | decide | omega) d_Mo_in_15
theorem d_Tb_isIn_0 : decode c_Tb_isIn 0 = .ok (.iload_n 0, 1) := by decide +kernel
theorem d_Tb_isIn_1 : decode c_Tb_isIn 1 = .ok (.iload_n 1, 1) := by decide +kernel
theorem d_Tb_isIn_2 : decode c_Tb_isIn 2 = .ok (.ishr, 1) := by decide +kernel
theorem d_Tb_isIn_3 : decode c_Tb_isIn 3 = .ok (.iconst 1, 1) := by decide +kernel
theorem d_Tb_isIn_4 : decode c_Tb_isIn 4 = .ok (.iand, 1) := by decide +kernel
theorem d_Tb_isIn_5 : decode c_Tb_isIn 5 = .ok (.iconst 1, 1) := by decide +kernel
theorem d_Tb_isIn_6 : decode c_Tb_isIn 6 = .ok (.if_icmp .ne 7, 3) := by decide +kernel
theorem d_Tb_isIn_9 : decode c_Tb_isIn 9 = .ok (.iconst 1, 1) := by decide +kernel
theorem d_Tb_isIn_10 : decode c_Tb_isIn 10 = .ok (.goto 4, 3) := by decide +kernel
theorem d_Tb_isIn_13 : decode c_Tb_isIn 13 = .ok (.iconst 0, 1) := by decide +kernel
theorem d_Tb_isIn_14 : decode c_Tb_isIn 14 = .ok (.ireturn, 1) := by decide +kernel
set_option maxHeartbeats 4000000 in
set_option maxRecDepth 100000 in
theorem m_Tb_isIn {g0 : State} {d : zD} {l : Launch} {a0 : Array Value} (hs0 : zS0 d a0 g0) (hst : l.stackTraces = false) {G : zG} (set k : Int32) : zMet g0 d l y_Tb_isIn c_Tb_isIn 2 ((Option.some Jvm.ClassFile.FieldType.boolean)) 1 0 0 [.int set, .int k] (G) (zEq (some (.int (zb (decide (zbit set k = 1))))) G) (zNo) := by
  refine z_entry hs0 hst (by decide) (Nat.le_of_ble_eq_true rfl) (fun p e s m args below meth c => ?_)
  refine z_iload_n 0 d_Tb_isIn_0 rfl rfl ?_
  refine z_iload_n 1 d_Tb_isIn_1 rfl rfl ?_
  refine z_ishr d_Tb_isIn_2 ?_
  refine z_iconst (v := 1) d_Tb_isIn_3 (by decide) ?_
  refine z_iand d_Tb_isIn_4 ?_
  refine z_iconst (v := 1) d_Tb_isIn_5 (by decide) ?_
  refine z_icmp_ne 13 d_Tb_isIn_6 (by decide) (fun c_6 => ?_) (fun c_6 => ?_)
  · skip
    refine z_iconst (v := 0) d_Tb_isIn_13 (by decide) ?_
    exact z_zret rfl (by first | rfl | exact zb_nar _) (⟨by first | rw [decide_eq_true (show zbit set k = 1 from c_6)]; rfl | rw [decide_eq_false (show ¬ zbit set k = 1 from c_6)]; rfl, rfl⟩) (by first | decide | omega) (by first | decide | omega) d_Tb_isIn_14
  · skip
    refine z_iconst (v := 1) d_Tb_isIn_9 (by decide) ?_
    refine z_goto 14 d_Tb_isIn_10 (by decide) ?_
    exact z_zret rfl (by first | rfl | exact zb_nar _) (⟨by first | rw [decide_eq_true (show zbit set k = 1 from c_6)]; rfl | rw [decide_eq_false (show ¬ zbit set k = 1 from c_6)]; rfl, rfl⟩) (by first | decide | omega) (by first | decide | omega) d_Tb_isIn_14
theorem d_Mo_has_0 : decode c_Mo_has 0 = .ok (.iload_n 0, 1) := by decide +kernel
theorem d_Mo_has_1 : decode c_Mo_has 1 = .ok (.iload_n 1, 1) := by decide +kernel
theorem d_Mo_has_2 : decode c_Mo_has 2 = .ok (.ishr, 1) := by decide +kernel
theorem d_Mo_has_3 : decode c_Mo_has 3 = .ok (.iconst 1, 1) := by decide +kernel
theorem d_Mo_has_4 : decode c_Mo_has 4 = .ok (.iand, 1) := by decide +kernel
theorem d_Mo_has_5 : decode c_Mo_has 5 = .ok (.iconst 1, 1) := by decide +kernel
theorem d_Mo_has_6 : decode c_Mo_has 6 = .ok (.if_icmp .ne 7, 3) := by decide +kernel
theorem d_Mo_has_9 : decode c_Mo_has 9 = .ok (.iconst 1, 1) := by decide +kernel
theorem d_Mo_has_10 : decode c_Mo_has 10 = .ok (.goto 4, 3) := by decide +kernel
theorem d_Mo_has_13 : decode c_Mo_has 13 = .ok (.iconst 0, 1) := by decide +kernel
theorem d_Mo_has_14 : decode c_Mo_has 14 = .ok (.ireturn, 1) := by decide +kernel
set_option maxHeartbeats 4000000 in
set_option maxRecDepth 100000 in
theorem m_Mo_has {g0 : State} {d : zD} {l : Launch} {a0 : Array Value} (hs0 : zS0 d a0 g0) (hst : l.stackTraces = false) {G : zG} (set k : Int32) : zMet g0 d l y_Mo_has c_Mo_has 2 ((Option.some Jvm.ClassFile.FieldType.boolean)) 1 0 0 [.int set, .int k] (G) (zEq (some (.int (zb (decide (zbit set k = 1))))) G) (zNo) := by
  refine z_entry hs0 hst (by decide) (Nat.le_of_ble_eq_true rfl) (fun p e s m args below meth c => ?_)
  refine z_iload_n 0 d_Mo_has_0 rfl rfl ?_
  refine z_iload_n 1 d_Mo_has_1 rfl rfl ?_
  refine z_ishr d_Mo_has_2 ?_
  refine z_iconst (v := 1) d_Mo_has_3 (by decide) ?_
  refine z_iand d_Mo_has_4 ?_
  refine z_iconst (v := 1) d_Mo_has_5 (by decide) ?_
  refine z_icmp_ne 13 d_Mo_has_6 (by decide) (fun c_6 => ?_) (fun c_6 => ?_)
  · skip
    refine z_iconst (v := 0) d_Mo_has_13 (by decide) ?_
    exact z_zret rfl (by first | rfl | exact zb_nar _) (⟨by first | rw [decide_eq_true (show zbit set k = 1 from c_6)]; rfl | rw [decide_eq_false (show ¬ zbit set k = 1 from c_6)]; rfl, rfl⟩) (by first | decide | omega) (by first | decide | omega) d_Mo_has_14
  · skip
    refine z_iconst (v := 1) d_Mo_has_9 (by decide) ?_
    refine z_goto 14 d_Mo_has_10 (by decide) ?_
    exact z_zret rfl (by first | rfl | exact zb_nar _) (⟨by first | rw [decide_eq_true (show zbit set k = 1 from c_6)]; rfl | rw [decide_eq_false (show ¬ zbit set k = 1 from c_6)]; rfl, rfl⟩) (by first | decide | omega) (by first | decide | omega) d_Mo_has_14
theorem d_Tb_isNumber_0 : decode c_Tb_isNumber 0 = .ok (.iload_n 0, 1) := by decide +kernel
theorem d_Tb_isNumber_1 : decode c_Tb_isNumber 1 = .ok (.iconst 0, 1) := by decide +kernel
theorem d_Tb_isNumber_2 : decode c_Tb_isNumber 2 = .ok (.bipush 96, 2) := by decide +kernel
theorem d_Tb_isNumber_4 : decode c_Tb_isNumber 4 = .ok (.invokestatic 57, 3) := by decide +kernel
theorem d_Tb_isNumber_7 : decode c_Tb_isNumber 7 = .ok (.ireturn, 1) := by decide +kernel
set_option maxHeartbeats 4000000 in
set_option maxRecDepth 100000 in
theorem m_Tb_isNumber {g0 : State} {d : zD} {l : Launch} {a0 : Array Value} (hs0 : zS0 d a0 g0) (hst : l.stackTraces = false) {G : zG} (k : Int32) : zMet g0 d l y_Tb_isNumber c_Tb_isNumber 1 ((Option.some Jvm.ClassFile.FieldType.boolean)) 2 0 0 [.int k] (G) (zEq (some (.int (zb (zin k 0 96)))) G) (zNo) := by
  refine z_entry hs0 hst (by decide) (Nat.le_of_ble_eq_true rfl) (fun p e s m args below meth c => ?_)
  refine z_iload_n 0 d_Tb_isNumber_0 rfl rfl ?_
  refine z_iconst (v := 0) d_Tb_isNumber_1 (by decide) ?_
  refine z_bipush (v := 96) d_Tb_isNumber_2 (by decide) ?_
  refine z_callS0 (m_Tb_isFrom hs0 hst k 0 96) ym_Tb_isFrom qM_Tb_57 qS_Tb_isFrom d_Tb_isNumber_4 rfl (Nat.le_of_ble_eq_true rfl) ⟨Nat.zero_le _, Nat.zero_le _⟩ ⟨Nat.le_of_ble_eq_true rfl, Nat.le_of_ble_eq_true rfl⟩ ?_
  exact z_zret rfl (by first | rfl | exact zb_nar _) (⟨rfl, rfl⟩) (by first | decide | omega) (by first | decide | omega) d_Tb_isNumber_7
theorem d_Tb_pointOf_0 : decode c_Tb_pointOf 0 = .ok (.iload_n 0, 1) := by decide +kernel
theorem d_Tb_pointOf_1 : decode c_Tb_pointOf 1 = .ok (.iconst 1, 1) := by decide +kernel
theorem d_Tb_pointOf_2 : decode c_Tb_pointOf 2 = .ok (.iadd, 1) := by decide +kernel
theorem d_Tb_pointOf_3 : decode c_Tb_pointOf 3 = .ok (.ireturn, 1) := by decide +kernel
set_option maxHeartbeats 4000000 in
set_option maxRecDepth 100000 in
theorem m_Tb_pointOf {g0 : State} {d : zD} {l : Launch} {a0 : Array Value} (hs0 : zS0 d a0 g0) (hst : l.stackTraces = false) {G : zG} (k : Int32) : zMet g0 d l y_Tb_pointOf c_Tb_pointOf 1 ((Option.some Jvm.ClassFile.FieldType.int)) 1 0 0 [.int k] (G) (zEq (some (.int (k + 1))) G) (zNo) := by
  refine z_entry hs0 hst (by decide) (Nat.le_of_ble_eq_true rfl) (fun p e s m args below meth c => ?_)
  refine z_iload_n 0 d_Tb_pointOf_0 rfl rfl ?_
  refine z_iconst (v := 1) d_Tb_pointOf_1 (by decide) ?_
  refine z_iadd d_Tb_pointOf_2 ?_
  exact z_iret rfl (⟨rfl, rfl⟩) (by first | decide | omega) (by first | decide | omega) d_Tb_pointOf_3

/-- a secret's three cells -/
def zSe (d : zD) (h hs he : Nat) (t z dt : Int32) (sh ep : Nat → Int32) (epo fr bl : Int32) (G : zG) : Prop := G h = some (zob 7 [.int t, .int z, .int dt, .ref hs, .ref he, .int epo, .int fr, .int bl]) ∧ G hs = some (zI d 8 sh) ∧ G he = some (zI d 8 ep) ∧ hs ≠ he
theorem zOI {G : zG} {a b n ci : Nat} {d : zD} {fs : List Value} {f : Nat → Int32} (h1 : G a = some (zob ci fs)) (h2 : G b = some (zI d n f)) : a ≠ b := fun e => by rw [e, h2] at h1; cases h1
theorem zOD {G : zG} {a b n ci : Nat} {d : zD} {fs : List Value} {f : Nat → UInt64} (h1 : G a = some (zob ci fs)) (h2 : G b = some (zDb d n f)) : a ≠ b := fun e => by rw [e, h2] at h1; cases h1
theorem zOO {G : zG} {a b n ci : Nat} {d : zD} {fs : List Value} {f : Nat → Option Nat} (h1 : G a = some (zob ci fs)) (h2 : G b = some (zO d n f)) : a ≠ b := fun e => by rw [e, h2] at h1; cases h1
theorem zNI_clamp {j : Nat} (h : j < 8) : (nI j).toNatClampNeg = j := nI_clamp (by omega)

theorem d_Se_shareOf_0 : decode c_Se_shareOf 0 = .ok (.iload_n 1, 1) := by decide +kernel
theorem d_Se_shareOf_1 : decode c_Se_shareOf 1 = .ok (.ifCond .lt 21, 3) := by decide +kernel
theorem d_Se_shareOf_4 : decode c_Se_shareOf 4 = .ok (.iload_n 1, 1) := by decide +kernel
theorem d_Se_shareOf_5 : decode c_Se_shareOf 5 = .ok (.aload_n 0, 1) := by decide +kernel
theorem d_Se_shareOf_6 : decode c_Se_shareOf 6 = .ok (.getfield 21, 3) := by decide +kernel
theorem d_Se_shareOf_9 : decode c_Se_shareOf 9 = .ok (.arraylength, 1) := by decide +kernel
theorem d_Se_shareOf_10 : decode c_Se_shareOf 10 = .ok (.if_icmp .ge 12, 3) := by decide +kernel
theorem d_Se_shareOf_13 : decode c_Se_shareOf 13 = .ok (.aload_n 0, 1) := by decide +kernel
theorem d_Se_shareOf_14 : decode c_Se_shareOf 14 = .ok (.getfield 21, 3) := by decide +kernel
theorem d_Se_shareOf_17 : decode c_Se_shareOf 17 = .ok (.iload_n 1, 1) := by decide +kernel
theorem d_Se_shareOf_18 : decode c_Se_shareOf 18 = .ok (.iaload, 1) := by decide +kernel
theorem d_Se_shareOf_19 : decode c_Se_shareOf 19 = .ok (.goto 4, 3) := by decide +kernel
theorem d_Se_shareOf_23 : decode c_Se_shareOf 23 = .ok (.ireturn, 1) := by decide +kernel
set_option maxHeartbeats 4000000 in
set_option maxRecDepth 100000 in
theorem m_Se_shareOf {g0 : State} {d : zD} {l : Launch} {a0 : Array Value} (hs0 : zS0 d a0 g0) (hst : l.stackTraces = false) {G : zG} {h hs he : Nat} {t z dt : Int32} {sh ep : Nat → Int32} {epo fr bl : Int32} {j : Nat} (hS : zSe d h hs he t z dt sh ep epo fr bl G) (hj : j < 8) : zMet g0 d l y_Se_shareOf c_Se_shareOf 2 ((Option.some Jvm.ClassFile.FieldType.int)) 1 0 0 [.ref h, .int (nI j)] (G) (zEq (some (.int (sh j))) G) (zNo) := by
  obtain ⟨hG_Se, hG_s, hG_e, hne⟩ := id hS
  refine z_entry hs0 hst (by decide) (Nat.le_of_ble_eq_true rfl) (fun p e s m args below meth c => ?_)
  refine z_iload_n 1 d_Se_shareOf_0 rfl rfl ?_
  refine z_if_lt 22 d_Se_shareOf_1 (by decide) (fun c_1 => (by exfalso; simp (disch := omega) only [Int32.lt_iff_toInt_lt, Int32.le_iff_toInt_le, ← Int32.toInt_inj, nI_toInt, Int32.reduceToInt] at c_1; omega)) (fun c_1 => ?_)
  refine z_iload_n 1 d_Se_shareOf_4 rfl rfl ?_
  refine z_aload_n 0 d_Se_shareOf_5 rfl rfl ?_
  refine z_get zc_Se 3 (by decide) qF_Se_21 hG_Se rfl d_Se_shareOf_6 ?_
  refine z_alenI hG_s d_Se_shareOf_9 ?_
  refine z_icmp_ge 22 d_Se_shareOf_10 (by decide) (fun c_10 => absurd c_10 (nI_ge hj (by decide))) (fun c_10 => ?_)
  refine z_aload_n 0 d_Se_shareOf_13 rfl rfl ?_
  refine z_get zc_Se 3 (by decide) qF_Se_21 hG_Se rfl d_Se_shareOf_14 ?_
  refine z_iload_n 1 d_Se_shareOf_17 rfl rfl ?_
  refine z_iald hG_s (vp_in_nI hj (by decide)) d_Se_shareOf_18 ?_
  refine z_goto 23 d_Se_shareOf_19 (by decide) ?_
  exact z_iret rfl (⟨by rw [zNI_clamp hj], rfl⟩) (by first | decide | omega) (by first | decide | omega) d_Se_shareOf_23
theorem d_Se_epochOf_0 : decode c_Se_epochOf 0 = .ok (.iload_n 1, 1) := by decide +kernel
theorem d_Se_epochOf_1 : decode c_Se_epochOf 1 = .ok (.ifCond .lt 21, 3) := by decide +kernel
theorem d_Se_epochOf_4 : decode c_Se_epochOf 4 = .ok (.iload_n 1, 1) := by decide +kernel
theorem d_Se_epochOf_5 : decode c_Se_epochOf 5 = .ok (.aload_n 0, 1) := by decide +kernel
theorem d_Se_epochOf_6 : decode c_Se_epochOf 6 = .ok (.getfield 25, 3) := by decide +kernel
theorem d_Se_epochOf_9 : decode c_Se_epochOf 9 = .ok (.arraylength, 1) := by decide +kernel
theorem d_Se_epochOf_10 : decode c_Se_epochOf 10 = .ok (.if_icmp .ge 12, 3) := by decide +kernel
theorem d_Se_epochOf_13 : decode c_Se_epochOf 13 = .ok (.aload_n 0, 1) := by decide +kernel
theorem d_Se_epochOf_14 : decode c_Se_epochOf 14 = .ok (.getfield 25, 3) := by decide +kernel
theorem d_Se_epochOf_17 : decode c_Se_epochOf 17 = .ok (.iload_n 1, 1) := by decide +kernel
theorem d_Se_epochOf_18 : decode c_Se_epochOf 18 = .ok (.iaload, 1) := by decide +kernel
theorem d_Se_epochOf_19 : decode c_Se_epochOf 19 = .ok (.goto 4, 3) := by decide +kernel
theorem d_Se_epochOf_23 : decode c_Se_epochOf 23 = .ok (.ireturn, 1) := by decide +kernel
set_option maxHeartbeats 4000000 in
set_option maxRecDepth 100000 in
theorem m_Se_epochOf {g0 : State} {d : zD} {l : Launch} {a0 : Array Value} (hs0 : zS0 d a0 g0) (hst : l.stackTraces = false) {G : zG} {h hs he : Nat} {t z dt : Int32} {sh ep : Nat → Int32} {epo fr bl : Int32} {j : Nat} (hS : zSe d h hs he t z dt sh ep epo fr bl G) (hj : j < 8) : zMet g0 d l y_Se_epochOf c_Se_epochOf 2 ((Option.some Jvm.ClassFile.FieldType.int)) 1 0 0 [.ref h, .int (nI j)] (G) (zEq (some (.int (ep j))) G) (zNo) := by
  obtain ⟨hG_Se, hG_s, hG_e, hne⟩ := id hS
  refine z_entry hs0 hst (by decide) (Nat.le_of_ble_eq_true rfl) (fun p e s m args below meth c => ?_)
  refine z_iload_n 1 d_Se_epochOf_0 rfl rfl ?_
  refine z_if_lt 22 d_Se_epochOf_1 (by decide) (fun c_1 => (by exfalso; simp (disch := omega) only [Int32.lt_iff_toInt_lt, Int32.le_iff_toInt_le, ← Int32.toInt_inj, nI_toInt, Int32.reduceToInt] at c_1; omega)) (fun c_1 => ?_)
  refine z_iload_n 1 d_Se_epochOf_4 rfl rfl ?_
  refine z_aload_n 0 d_Se_epochOf_5 rfl rfl ?_
  refine z_get zc_Se 4 (by decide) qF_Se_25 hG_Se rfl d_Se_epochOf_6 ?_
  refine z_alenI hG_e d_Se_epochOf_9 ?_
  refine z_icmp_ge 22 d_Se_epochOf_10 (by decide) (fun c_10 => absurd c_10 (nI_ge hj (by decide))) (fun c_10 => ?_)
  refine z_aload_n 0 d_Se_epochOf_13 rfl rfl ?_
  refine z_get zc_Se 4 (by decide) qF_Se_25 hG_Se rfl d_Se_epochOf_14 ?_
  refine z_iload_n 1 d_Se_epochOf_17 rfl rfl ?_
  refine z_iald hG_e (vp_in_nI hj (by decide)) d_Se_epochOf_18 ?_
  refine z_goto 23 d_Se_epochOf_19 (by decide) ?_
  exact z_iret rfl (⟨by rw [zNI_clamp hj], rfl⟩) (by first | decide | omega) (by first | decide | omega) d_Se_epochOf_23
theorem d_Se_has_0 : decode c_Se_has 0 = .ok (.aload_n 0, 1) := by decide +kernel
theorem d_Se_has_1 : decode c_Se_has 1 = .ok (.iload_n 1, 1) := by decide +kernel
theorem d_Se_has_2 : decode c_Se_has 2 = .ok (.invokevirtual 38, 3) := by decide +kernel
theorem d_Se_has_5 : decode c_Se_has 5 = .ok (.iconst (-1), 1) := by decide +kernel
theorem d_Se_has_6 : decode c_Se_has 6 = .ok (.if_icmp .eq 7, 3) := by decide +kernel
theorem d_Se_has_9 : decode c_Se_has 9 = .ok (.iconst 1, 1) := by decide +kernel
theorem d_Se_has_10 : decode c_Se_has 10 = .ok (.goto 4, 3) := by decide +kernel
theorem d_Se_has_13 : decode c_Se_has 13 = .ok (.iconst 0, 1) := by decide +kernel
theorem d_Se_has_14 : decode c_Se_has 14 = .ok (.ireturn, 1) := by decide +kernel
set_option maxHeartbeats 4000000 in
set_option maxRecDepth 100000 in
theorem m_Se_has {g0 : State} {d : zD} {l : Launch} {a0 : Array Value} (hs0 : zS0 d a0 g0) (hst : l.stackTraces = false) {G : zG} {h hs he : Nat} {t z dt : Int32} {sh ep : Nat → Int32} {epo fr bl : Int32} {j : Nat} (hS : zSe d h hs he t z dt sh ep epo fr bl G) (hj : j < 8) : zMet g0 d l y_Se_has c_Se_has 2 ((Option.some Jvm.ClassFile.FieldType.boolean)) 2 0 0 [.ref h, .int (nI j)] (G) (zEq (some (.int (zb (decide (ep j ≠ -1))))) G) (zNo) := by
  obtain ⟨hG_Se, hG_s, hG_e, hne⟩ := id hS
  refine z_entry hs0 hst (by decide) (Nat.le_of_ble_eq_true rfl) (fun p e s m args below meth c => ?_)
  refine z_aload_n 0 d_Se_has_0 rfl rfl ?_
  refine z_iload_n 1 d_Se_has_1 rfl rfl ?_
  refine z_callV0 (m_Se_epochOf hs0 hst hS hj) ym_Se_epochOf qM_Se_38 qI_Se_epochOf qV_Se_Se_epochOf zc_Se hG_Se d_Se_has_2 rfl (Nat.le_of_ble_eq_true rfl) ⟨Nat.zero_le _, Nat.zero_le _⟩ ⟨Nat.le_of_ble_eq_true rfl, Nat.le_of_ble_eq_true rfl⟩ ?_
  refine z_iconst (v := (-1)) d_Se_has_5 (by decide) ?_
  refine z_icmp_eq 13 d_Se_has_6 (by decide) (fun c_6 => ?_) (fun c_6 => ?_)
  · skip
    refine z_iconst (v := 0) d_Se_has_13 (by decide) ?_
    exact z_zret rfl (by first | rfl | exact zb_nar _) (⟨by first | rw [decide_eq_true c_6]; rfl | rw [decide_eq_false (fun h => h c_6)]; rfl, rfl⟩) (by first | decide | omega) (by first | decide | omega) d_Se_has_14
  · skip
    refine z_iconst (v := 1) d_Se_has_9 (by decide) ?_
    refine z_goto 14 d_Se_has_10 (by decide) ?_
    exact z_zret rfl (by first | rfl | exact zb_nar _) (⟨by first | rw [decide_eq_true c_6]; rfl | rw [decide_eq_false (fun h => h c_6)]; rfl, rfl⟩) (by first | decide | omega) (by first | decide | omega) d_Se_has_14
