
/-- a number of the tree's row r, as the reference reckons it; one leaf may be told otherwise -/
def znode (W : Nat → Nat → Int32) (ne : Nat) (o lf : Int32) : Nat → Nat → Int32
  | 0, k => if nI k = o then lf else if k < ne then W (500 + k) 3 else 0
  | r + 1, k => zr9 (31 * znode W ne o lf r (2 * k) + 17 * znode W ne o lf r (2 * k + 1) + 5)

def mBkA (V : Nat → Nat → Int32) (nk ns ne w : Nat) : Int32 := upd (upd (upd (upd (upd (upd (upd (upd (upd (upd (upd (upd (fun _ => 0) 0 (nI nk)) 1 (nI ns)) 2 (V 0 2)) 3 (V 0 1)) 4 (nI ne)) 5 (if nI w = 5 then znode V ne (-1) 0 6 0 else 0)) 6 (V 0 3)) 7 (V 0 4)) 8 (V 0 5)) 9 (nI (zcnt (fun k => decide (V (100 + k) 4 ≠ 0)) nk))) 10 (zsum (fun i => nI (zpop 9 (zsetN (zgd (V (300 + i)) (V (400 + i)) (V (200 + i) 3)) 8))) ns)) 11 (zsum (fun i => nI (zpop 9 (zsetN (zst (V (300 + i)) (V (400 + i)) (V (200 + i) 3)) 8))) ns) w
def rBk (nk ns ne : Nat) (w t b : Int32) (W : Nat → Nat → Int32) : Prop := (zin w 0 11 = false ∧ t = 1) ∨ (∃ q, q < 12 ∧ w = nI q ∧ t = 0 ∧ b = mBkA W nk ns ne q)

set_option maxHeartbeats 4000000 in
set_option maxRecDepth 100000 in
theorem m_Mo_node_0E {g0 : State} {d : zD} {l : Launch} {a0 : Array Value} (hs0 : zS0 d a0 g0) (hst : l.stackTraces = false) {G : zG} {B : Nat → Nat} {V : Nat → Nat → Int32} {nk ns ne ec : Nat} (hM : zM d B V nk ns ne ec G) {kk : Nat} (hkk : kk < 1048576) (o lf : Int32) : zMet g0 d l y_Mo_node c_Mo_node 5 ((Option.some Jvm.ClassFile.FieldType.int)) 12 0 0 [.ref (B 0), .int (nI 0), .int (nI kk), .int o, .int lf] (G) (zEq (some (.int (znode V ne o lf 0 kk))) G) (zNo) := by
  have hnk : nk ≤ 8 := hM.2.1
  have hns : ns ≤ 6 := hM.2.2.1
  have hne : ne ≤ 64 := hM.2.2.2.1
  have hp2 : 2 ^ nk ≤ 256 := Nat.pow_le_pow_right (n := 2) (by decide) hnk
  refine z_entry hs0 hst (by decide) (Nat.le_of_ble_eq_true rfl) (fun p e s m args below meth c => ?_)
  refine z_iload_n 1 d_Mo_node_0 rfl rfl ?_
  refine z_if_ne 47 d_Mo_node_1 (by decide) (fun c_1 => absurd nI_0 c_1) (fun c_1 => ?_)
  refine z_iload_n 2 d_Mo_node_4 rfl rfl ?_
  refine z_iload_n 3 d_Mo_node_5 rfl rfl ?_
  refine z_icmp_ne 14 d_Mo_node_6 (by decide) (fun c_6 => ?_) (fun c_6 => ?_)
  · skip
    refine z_iload_n 2 d_Mo_node_14 rfl rfl ?_
    refine z_aload_n 0 d_Mo_node_15 rfl rfl ?_
    refine z_get zc_Mo 8 (by decide) qF_Mo_23 hM.mo rfl d_Mo_node_16 ?_
    refine z_callF0 (m_AL_size hs0 hst hM.el) ym_AL_size zF_AL_size qM_Mo_94 zc_AL hM.el d_Mo_node_19 rfl (Nat.le_of_ble_eq_true rfl) ⟨Nat.zero_le _, Nat.zero_le _⟩ ⟨Nat.le_of_ble_eq_true rfl, Nat.le_of_ble_eq_true rfl⟩ ?_
    refine z_icmp_ge 45 d_Mo_node_24 (by decide) (fun c_24 => ?_) (fun c_24 => ?_)
    · skip
      have hn6 : ¬ kk < ne := Nat.not_lt.mpr ((nI_leI (a := ne) (b := kk) (by omega) (by omega)).mp c_24)
      refine z_iconst (v := 0) d_Mo_node_45 (by decide) ?_
      exact z_iret rfl (⟨by show _ = some (Value.int (if nI kk = o then lf else if kk < ne then V (500 + kk) 3 else 0)); first | rw [if_pos c_6] | rw [if_neg c_6, if_pos he6] | rw [if_neg c_6, if_neg hn6], rfl⟩) (by first | decide | omega) (by first | decide | omega) d_Mo_node_46
    · skip
      have he6 : kk < ne := Nat.lt_of_not_le fun q => c_24 (nI_le q (by omega))
      refine z_aload_n 0 d_Mo_node_27 rfl rfl ?_
      refine z_get zc_Mo 8 (by decide) qF_Mo_23 hM.mo rfl d_Mo_node_28 ?_
      refine z_iload_n 2 d_Mo_node_31 rfl rfl ?_
      refine z_callF0 (m_AL_get hs0 hst (hM.eA he6) he6 (if_pos he6)) ym_AL_get zF_AL_get qM_Mo_51 zc_AL (hM.eA he6).1 d_Mo_node_32 rfl (Nat.le_of_ble_eq_true rfl) ⟨Nat.zero_le _, Nat.zero_le _⟩ ⟨Nat.le_of_ble_eq_true rfl, Nat.le_of_ble_eq_true rfl⟩ ?_
      refine z_castI qK_Mo_217 (hM.en he6) d_Mo_node_37 ?_
      refine z_iconst (v := (nI 3)) d_Mo_node_40 (by decide) ?_
      refine z_ialdN (hM.en he6) (show 3 < 4 by decide) (by decide) d_Mo_node_41 ?_
      refine z_goto 46 d_Mo_node_42 (by decide) ?_
      exact z_iret rfl (⟨by show _ = some (Value.int (if nI kk = o then lf else if kk < ne then V (500 + kk) 3 else 0)); first | rw [if_pos c_6] | rw [if_neg c_6, if_pos he6] | rw [if_neg c_6, if_neg hn6], rfl⟩) (by first | decide | omega) (by first | decide | omega) d_Mo_node_46
  · skip
    refine z_iload 4 d_Mo_node_9 rfl ?_
    refine z_goto 46 d_Mo_node_11 (by decide) ?_
    exact z_iret rfl (⟨by show _ = some (Value.int (if nI kk = o then lf else if kk < ne then V (500 + kk) 3 else 0)); first | rw [if_pos c_6] | rw [if_neg c_6, if_pos he6] | rw [if_neg c_6, if_neg hn6], rfl⟩) (by first | decide | omega) (by first | decide | omega) d_Mo_node_46
set_option maxHeartbeats 4000000 in
set_option maxRecDepth 100000 in
theorem m_Mo_node_1E {g0 : State} {d : zD} {l : Launch} {a0 : Array Value} (hs0 : zS0 d a0 g0) (hst : l.stackTraces = false) {G : zG} {B : Nat → Nat} {V : Nat → Nat → Int32} {nk ns ne ec : Nat} (hM : zM d B V nk ns ne ec G) {kk : Nat} (hkk : kk < 524288) (o lf : Int32) : zMet g0 d l y_Mo_node c_Mo_node 5 ((Option.some Jvm.ClassFile.FieldType.int)) 13 0 0 [.ref (B 0), .int (nI 1), .int (nI kk), .int o, .int lf] (G) (zEq (some (.int (znode V ne o lf 1 kk))) G) (zNo) := by
  have hnk : nk ≤ 8 := hM.2.1
  have hns : ns ≤ 6 := hM.2.2.1
  have hne : ne ≤ 64 := hM.2.2.2.1
  have hp2 : 2 ^ nk ≤ 256 := Nat.pow_le_pow_right (n := 2) (by decide) hnk
  refine z_entry hs0 hst (by decide) (Nat.le_of_ble_eq_true rfl) (fun p e s m args below meth c => ?_)
  refine z_iload_n 1 d_Mo_node_0 rfl rfl ?_
  refine z_if_ne 47 d_Mo_node_1 (by decide) (fun c_1 => ?_) (fun c_1 => absurd c_1 (by decide))
  refine z_bipush (v := 31) d_Mo_node_47 (by decide) ?_
  refine z_aload_n 0 d_Mo_node_49 rfl rfl ?_
  refine z_iload_n 1 d_Mo_node_50 rfl rfl ?_
  refine z_iconst (v := 1) d_Mo_node_51 (by decide) ?_
  refine z_isub d_Mo_node_52 ?_
  refine z_topv (v := nI 0) (by decide) ?_
  refine z_iconst (v := (nI 2)) d_Mo_node_53 (by decide) ?_
  refine z_iload_n 2 d_Mo_node_54 rfl rfl ?_
  refine z_imul d_Mo_node_55 ?_
  refine z_topv (v := nI (2 * kk)) (pk_mul 2 kk) ?_
  refine z_iload_n 3 d_Mo_node_56 rfl rfl ?_
  refine z_iload 4 d_Mo_node_57 rfl ?_
  refine z_callV0 ((m_Mo_node_0E hs0 hst hM (kk := 2 * kk) (by omega) o lf)) ym_Mo_node qM_Mo_218 qI_Mo_node qV_Mo_Mo_node zc_Mo hM.mo d_Mo_node_59 rfl (Nat.le_of_ble_eq_true rfl) ⟨Nat.zero_le _, Nat.zero_le _⟩ ⟨Nat.le_of_ble_eq_true rfl, Nat.le_of_ble_eq_true rfl⟩ ?_
  refine z_imul d_Mo_node_62 ?_
  refine z_bipush (v := 17) d_Mo_node_63 (by decide) ?_
  refine z_aload_n 0 d_Mo_node_65 rfl rfl ?_
  refine z_iload_n 1 d_Mo_node_66 rfl rfl ?_
  refine z_iconst (v := 1) d_Mo_node_67 (by decide) ?_
  refine z_isub d_Mo_node_68 ?_
  refine z_topv (v := nI 0) (by decide) ?_
  refine z_iconst (v := (nI 2)) d_Mo_node_69 (by decide) ?_
  refine z_iload_n 2 d_Mo_node_70 rfl rfl ?_
  refine z_imul d_Mo_node_71 ?_
  refine z_topv (v := nI (2 * kk)) (pk_mul 2 kk) ?_
  refine z_iconst (v := 1) d_Mo_node_72 (by decide) ?_
  refine z_iadd d_Mo_node_73 ?_
  refine z_topv (v := nI (2 * kk + 1)) (nI_1 _) ?_
  refine z_iload_n 3 d_Mo_node_74 rfl rfl ?_
  refine z_iload 4 d_Mo_node_75 rfl ?_
  refine z_callV0 ((m_Mo_node_0E hs0 hst hM (kk := 2 * kk + 1) (by omega) o lf)) ym_Mo_node qM_Mo_218 qI_Mo_node qV_Mo_Mo_node zc_Mo hM.mo d_Mo_node_77 rfl (Nat.le_of_ble_eq_true rfl) ⟨Nat.zero_le _, Nat.zero_le _⟩ ⟨Nat.le_of_ble_eq_true rfl, Nat.le_of_ble_eq_true rfl⟩ ?_
  refine z_imul d_Mo_node_80 ?_
  refine z_iadd d_Mo_node_81 ?_
  refine z_iconst (v := 5) d_Mo_node_82 (by decide) ?_
  refine z_iadd d_Mo_node_83 ?_
  refine z_sipush (v := 9973) d_Mo_node_84 (by decide) ?_
  refine z_irem d_Mo_node_87 (by decide) ?_
  exact z_iret rfl (⟨rfl, rfl⟩) (by first | decide | omega) (by first | decide | omega) d_Mo_node_88
set_option maxHeartbeats 4000000 in
set_option maxRecDepth 100000 in
theorem m_Mo_node_2E {g0 : State} {d : zD} {l : Launch} {a0 : Array Value} (hs0 : zS0 d a0 g0) (hst : l.stackTraces = false) {G : zG} {B : Nat → Nat} {V : Nat → Nat → Int32} {nk ns ne ec : Nat} (hM : zM d B V nk ns ne ec G) {kk : Nat} (hkk : kk < 262144) (o lf : Int32) : zMet g0 d l y_Mo_node c_Mo_node 5 ((Option.some Jvm.ClassFile.FieldType.int)) 14 0 0 [.ref (B 0), .int (nI 2), .int (nI kk), .int o, .int lf] (G) (zEq (some (.int (znode V ne o lf 2 kk))) G) (zNo) := by
  have hnk : nk ≤ 8 := hM.2.1
  have hns : ns ≤ 6 := hM.2.2.1
  have hne : ne ≤ 64 := hM.2.2.2.1
  have hp2 : 2 ^ nk ≤ 256 := Nat.pow_le_pow_right (n := 2) (by decide) hnk
  refine z_entry hs0 hst (by decide) (Nat.le_of_ble_eq_true rfl) (fun p e s m args below meth c => ?_)
  refine z_iload_n 1 d_Mo_node_0 rfl rfl ?_
  refine z_if_ne 47 d_Mo_node_1 (by decide) (fun c_1 => ?_) (fun c_1 => absurd c_1 (by decide))
  refine z_bipush (v := 31) d_Mo_node_47 (by decide) ?_
  refine z_aload_n 0 d_Mo_node_49 rfl rfl ?_
  refine z_iload_n 1 d_Mo_node_50 rfl rfl ?_
  refine z_iconst (v := 1) d_Mo_node_51 (by decide) ?_
  refine z_isub d_Mo_node_52 ?_
  refine z_topv (v := nI 1) (by decide) ?_
  refine z_iconst (v := (nI 2)) d_Mo_node_53 (by decide) ?_
  refine z_iload_n 2 d_Mo_node_54 rfl rfl ?_
  refine z_imul d_Mo_node_55 ?_
  refine z_topv (v := nI (2 * kk)) (pk_mul 2 kk) ?_
  refine z_iload_n 3 d_Mo_node_56 rfl rfl ?_
  refine z_iload 4 d_Mo_node_57 rfl ?_
  refine z_callV0 ((m_Mo_node_1E hs0 hst hM (kk := 2 * kk) (by omega) o lf)) ym_Mo_node qM_Mo_218 qI_Mo_node qV_Mo_Mo_node zc_Mo hM.mo d_Mo_node_59 rfl (Nat.le_of_ble_eq_true rfl) ⟨Nat.zero_le _, Nat.zero_le _⟩ ⟨Nat.le_of_ble_eq_true rfl, Nat.le_of_ble_eq_true rfl⟩ ?_
  refine z_imul d_Mo_node_62 ?_
  refine z_bipush (v := 17) d_Mo_node_63 (by decide) ?_
  refine z_aload_n 0 d_Mo_node_65 rfl rfl ?_
  refine z_iload_n 1 d_Mo_node_66 rfl rfl ?_
  refine z_iconst (v := 1) d_Mo_node_67 (by decide) ?_
  refine z_isub d_Mo_node_68 ?_
  refine z_topv (v := nI 1) (by decide) ?_
  refine z_iconst (v := (nI 2)) d_Mo_node_69 (by decide) ?_
  refine z_iload_n 2 d_Mo_node_70 rfl rfl ?_
  refine z_imul d_Mo_node_71 ?_
  refine z_topv (v := nI (2 * kk)) (pk_mul 2 kk) ?_
  refine z_iconst (v := 1) d_Mo_node_72 (by decide) ?_
  refine z_iadd d_Mo_node_73 ?_
  refine z_topv (v := nI (2 * kk + 1)) (nI_1 _) ?_
  refine z_iload_n 3 d_Mo_node_74 rfl rfl ?_
  refine z_iload 4 d_Mo_node_75 rfl ?_
  refine z_callV0 ((m_Mo_node_1E hs0 hst hM (kk := 2 * kk + 1) (by omega) o lf)) ym_Mo_node qM_Mo_218 qI_Mo_node qV_Mo_Mo_node zc_Mo hM.mo d_Mo_node_77 rfl (Nat.le_of_ble_eq_true rfl) ⟨Nat.zero_le _, Nat.zero_le _⟩ ⟨Nat.le_of_ble_eq_true rfl, Nat.le_of_ble_eq_true rfl⟩ ?_
  refine z_imul d_Mo_node_80 ?_
  refine z_iadd d_Mo_node_81 ?_
  refine z_iconst (v := 5) d_Mo_node_82 (by decide) ?_
  refine z_iadd d_Mo_node_83 ?_
  refine z_sipush (v := 9973) d_Mo_node_84 (by decide) ?_
  refine z_irem d_Mo_node_87 (by decide) ?_
  exact z_iret rfl (⟨rfl, rfl⟩) (by first | decide | omega) (by first | decide | omega) d_Mo_node_88
set_option maxHeartbeats 4000000 in
set_option maxRecDepth 100000 in
theorem m_Mo_node_3E {g0 : State} {d : zD} {l : Launch} {a0 : Array Value} (hs0 : zS0 d a0 g0) (hst : l.stackTraces = false) {G : zG} {B : Nat → Nat} {V : Nat → Nat → Int32} {nk ns ne ec : Nat} (hM : zM d B V nk ns ne ec G) {kk : Nat} (hkk : kk < 131072) (o lf : Int32) : zMet g0 d l y_Mo_node c_Mo_node 5 ((Option.some Jvm.ClassFile.FieldType.int)) 15 0 0 [.ref (B 0), .int (nI 3), .int (nI kk), .int o, .int lf] (G) (zEq (some (.int (znode V ne o lf 3 kk))) G) (zNo) := by
  have hnk : nk ≤ 8 := hM.2.1
  have hns : ns ≤ 6 := hM.2.2.1
  have hne : ne ≤ 64 := hM.2.2.2.1
  have hp2 : 2 ^ nk ≤ 256 := Nat.pow_le_pow_right (n := 2) (by decide) hnk
  refine z_entry hs0 hst (by decide) (Nat.le_of_ble_eq_true rfl) (fun p e s m args below meth c => ?_)
  refine z_iload_n 1 d_Mo_node_0 rfl rfl ?_
  refine z_if_ne 47 d_Mo_node_1 (by decide) (fun c_1 => ?_) (fun c_1 => absurd c_1 (by decide))
  refine z_bipush (v := 31) d_Mo_node_47 (by decide) ?_
  refine z_aload_n 0 d_Mo_node_49 rfl rfl ?_
  refine z_iload_n 1 d_Mo_node_50 rfl rfl ?_
  refine z_iconst (v := 1) d_Mo_node_51 (by decide) ?_
  refine z_isub d_Mo_node_52 ?_
  refine z_topv (v := nI 2) (by decide) ?_
  refine z_iconst (v := (nI 2)) d_Mo_node_53 (by decide) ?_
  refine z_iload_n 2 d_Mo_node_54 rfl rfl ?_
  refine z_imul d_Mo_node_55 ?_
  refine z_topv (v := nI (2 * kk)) (pk_mul 2 kk) ?_
  refine z_iload_n 3 d_Mo_node_56 rfl rfl ?_
  refine z_iload 4 d_Mo_node_57 rfl ?_
  refine z_callV0 ((m_Mo_node_2E hs0 hst hM (kk := 2 * kk) (by omega) o lf)) ym_Mo_node qM_Mo_218 qI_Mo_node qV_Mo_Mo_node zc_Mo hM.mo d_Mo_node_59 rfl (Nat.le_of_ble_eq_true rfl) ⟨Nat.zero_le _, Nat.zero_le _⟩ ⟨Nat.le_of_ble_eq_true rfl, Nat.le_of_ble_eq_true rfl⟩ ?_
  refine z_imul d_Mo_node_62 ?_
  refine z_bipush (v := 17) d_Mo_node_63 (by decide) ?_
  refine z_aload_n 0 d_Mo_node_65 rfl rfl ?_
  refine z_iload_n 1 d_Mo_node_66 rfl rfl ?_
  refine z_iconst (v := 1) d_Mo_node_67 (by decide) ?_
  refine z_isub d_Mo_node_68 ?_
  refine z_topv (v := nI 2) (by decide) ?_
  refine z_iconst (v := (nI 2)) d_Mo_node_69 (by decide) ?_
  refine z_iload_n 2 d_Mo_node_70 rfl rfl ?_
  refine z_imul d_Mo_node_71 ?_
  refine z_topv (v := nI (2 * kk)) (pk_mul 2 kk) ?_
  refine z_iconst (v := 1) d_Mo_node_72 (by decide) ?_
  refine z_iadd d_Mo_node_73 ?_
  refine z_topv (v := nI (2 * kk + 1)) (nI_1 _) ?_
  refine z_iload_n 3 d_Mo_node_74 rfl rfl ?_
  refine z_iload 4 d_Mo_node_75 rfl ?_
  refine z_callV0 ((m_Mo_node_2E hs0 hst hM (kk := 2 * kk + 1) (by omega) o lf)) ym_Mo_node qM_Mo_218 qI_Mo_node qV_Mo_Mo_node zc_Mo hM.mo d_Mo_node_77 rfl (Nat.le_of_ble_eq_true rfl) ⟨Nat.zero_le _, Nat.zero_le _⟩ ⟨Nat.le_of_ble_eq_true rfl, Nat.le_of_ble_eq_true rfl⟩ ?_
  refine z_imul d_Mo_node_80 ?_
  refine z_iadd d_Mo_node_81 ?_
  refine z_iconst (v := 5) d_Mo_node_82 (by decide) ?_
  refine z_iadd d_Mo_node_83 ?_
  refine z_sipush (v := 9973) d_Mo_node_84 (by decide) ?_
  refine z_irem d_Mo_node_87 (by decide) ?_
  exact z_iret rfl (⟨rfl, rfl⟩) (by first | decide | omega) (by first | decide | omega) d_Mo_node_88
set_option maxHeartbeats 4000000 in
set_option maxRecDepth 100000 in
theorem m_Mo_node_4E {g0 : State} {d : zD} {l : Launch} {a0 : Array Value} (hs0 : zS0 d a0 g0) (hst : l.stackTraces = false) {G : zG} {B : Nat → Nat} {V : Nat → Nat → Int32} {nk ns ne ec : Nat} (hM : zM d B V nk ns ne ec G) {kk : Nat} (hkk : kk < 65536) (o lf : Int32) : zMet g0 d l y_Mo_node c_Mo_node 5 ((Option.some Jvm.ClassFile.FieldType.int)) 16 0 0 [.ref (B 0), .int (nI 4), .int (nI kk), .int o, .int lf] (G) (zEq (some (.int (znode V ne o lf 4 kk))) G) (zNo) := by
  have hnk : nk ≤ 8 := hM.2.1
  have hns : ns ≤ 6 := hM.2.2.1
  have hne : ne ≤ 64 := hM.2.2.2.1
  have hp2 : 2 ^ nk ≤ 256 := Nat.pow_le_pow_right (n := 2) (by decide) hnk
  refine z_entry hs0 hst (by decide) (Nat.le_of_ble_eq_true rfl) (fun p e s m args below meth c => ?_)
  refine z_iload_n 1 d_Mo_node_0 rfl rfl ?_
  refine z_if_ne 47 d_Mo_node_1 (by decide) (fun c_1 => ?_) (fun c_1 => absurd c_1 (by decide))
  refine z_bipush (v := 31) d_Mo_node_47 (by decide) ?_
  refine z_aload_n 0 d_Mo_node_49 rfl rfl ?_
  refine z_iload_n 1 d_Mo_node_50 rfl rfl ?_
  refine z_iconst (v := 1) d_Mo_node_51 (by decide) ?_
  refine z_isub d_Mo_node_52 ?_
  refine z_topv (v := nI 3) (by decide) ?_
  refine z_iconst (v := (nI 2)) d_Mo_node_53 (by decide) ?_
  refine z_iload_n 2 d_Mo_node_54 rfl rfl ?_
  refine z_imul d_Mo_node_55 ?_
  refine z_topv (v := nI (2 * kk)) (pk_mul 2 kk) ?_
  refine z_iload_n 3 d_Mo_node_56 rfl rfl ?_
  refine z_iload 4 d_Mo_node_57 rfl ?_
  refine z_callV0 ((m_Mo_node_3E hs0 hst hM (kk := 2 * kk) (by omega) o lf)) ym_Mo_node qM_Mo_218 qI_Mo_node qV_Mo_Mo_node zc_Mo hM.mo d_Mo_node_59 rfl (Nat.le_of_ble_eq_true rfl) ⟨Nat.zero_le _, Nat.zero_le _⟩ ⟨Nat.le_of_ble_eq_true rfl, Nat.le_of_ble_eq_true rfl⟩ ?_
  refine z_imul d_Mo_node_62 ?_
  refine z_bipush (v := 17) d_Mo_node_63 (by decide) ?_
  refine z_aload_n 0 d_Mo_node_65 rfl rfl ?_
  refine z_iload_n 1 d_Mo_node_66 rfl rfl ?_
  refine z_iconst (v := 1) d_Mo_node_67 (by decide) ?_
  refine z_isub d_Mo_node_68 ?_
  refine z_topv (v := nI 3) (by decide) ?_
  refine z_iconst (v := (nI 2)) d_Mo_node_69 (by decide) ?_
  refine z_iload_n 2 d_Mo_node_70 rfl rfl ?_
  refine z_imul d_Mo_node_71 ?_
  refine z_topv (v := nI (2 * kk)) (pk_mul 2 kk) ?_
  refine z_iconst (v := 1) d_Mo_node_72 (by decide) ?_
  refine z_iadd d_Mo_node_73 ?_
  refine z_topv (v := nI (2 * kk + 1)) (nI_1 _) ?_
  refine z_iload_n 3 d_Mo_node_74 rfl rfl ?_
  refine z_iload 4 d_Mo_node_75 rfl ?_
  refine z_callV0 ((m_Mo_node_3E hs0 hst hM (kk := 2 * kk + 1) (by omega) o lf)) ym_Mo_node qM_Mo_218 qI_Mo_node qV_Mo_Mo_node zc_Mo hM.mo d_Mo_node_77 rfl (Nat.le_of_ble_eq_true rfl) ⟨Nat.zero_le _, Nat.zero_le _⟩ ⟨Nat.le_of_ble_eq_true rfl, Nat.le_of_ble_eq_true rfl⟩ ?_
  refine z_imul d_Mo_node_80 ?_
  refine z_iadd d_Mo_node_81 ?_
  refine z_iconst (v := 5) d_Mo_node_82 (by decide) ?_
  refine z_iadd d_Mo_node_83 ?_
  refine z_sipush (v := 9973) d_Mo_node_84 (by decide) ?_
  refine z_irem d_Mo_node_87 (by decide) ?_
  exact z_iret rfl (⟨rfl, rfl⟩) (by first | decide | omega) (by first | decide | omega) d_Mo_node_88
set_option maxHeartbeats 4000000 in
set_option maxRecDepth 100000 in
theorem m_Mo_node_5E {g0 : State} {d : zD} {l : Launch} {a0 : Array Value} (hs0 : zS0 d a0 g0) (hst : l.stackTraces = false) {G : zG} {B : Nat → Nat} {V : Nat → Nat → Int32} {nk ns ne ec : Nat} (hM : zM d B V nk ns ne ec G) {kk : Nat} (hkk : kk < 32768) (o lf : Int32) : zMet g0 d l y_Mo_node c_Mo_node 5 ((Option.some Jvm.ClassFile.FieldType.int)) 17 0 0 [.ref (B 0), .int (nI 5), .int (nI kk), .int o, .int lf] (G) (zEq (some (.int (znode V ne o lf 5 kk))) G) (zNo) := by
  have hnk : nk ≤ 8 := hM.2.1
  have hns : ns ≤ 6 := hM.2.2.1
  have hne : ne ≤ 64 := hM.2.2.2.1
  have hp2 : 2 ^ nk ≤ 256 := Nat.pow_le_pow_right (n := 2) (by decide) hnk
  refine z_entry hs0 hst (by decide) (Nat.le_of_ble_eq_true rfl) (fun p e s m args below meth c => ?_)
  refine z_iload_n 1 d_Mo_node_0 rfl rfl ?_
  refine z_if_ne 47 d_Mo_node_1 (by decide) (fun c_1 => ?_) (fun c_1 => absurd c_1 (by decide))
  refine z_bipush (v := 31) d_Mo_node_47 (by decide) ?_
  refine z_aload_n 0 d_Mo_node_49 rfl rfl ?_
  refine z_iload_n 1 d_Mo_node_50 rfl rfl ?_
  refine z_iconst (v := 1) d_Mo_node_51 (by decide) ?_
  refine z_isub d_Mo_node_52 ?_
  refine z_topv (v := nI 4) (by decide) ?_
  refine z_iconst (v := (nI 2)) d_Mo_node_53 (by decide) ?_
  refine z_iload_n 2 d_Mo_node_54 rfl rfl ?_
  refine z_imul d_Mo_node_55 ?_
  refine z_topv (v := nI (2 * kk)) (pk_mul 2 kk) ?_
  refine z_iload_n 3 d_Mo_node_56 rfl rfl ?_
  refine z_iload 4 d_Mo_node_57 rfl ?_
  refine z_callV0 ((m_Mo_node_4E hs0 hst hM (kk := 2 * kk) (by omega) o lf)) ym_Mo_node qM_Mo_218 qI_Mo_node qV_Mo_Mo_node zc_Mo hM.mo d_Mo_node_59 rfl (Nat.le_of_ble_eq_true rfl) ⟨Nat.zero_le _, Nat.zero_le _⟩ ⟨Nat.le_of_ble_eq_true rfl, Nat.le_of_ble_eq_true rfl⟩ ?_
  refine z_imul d_Mo_node_62 ?_
  refine z_bipush (v := 17) d_Mo_node_63 (by decide) ?_
  refine z_aload_n 0 d_Mo_node_65 rfl rfl ?_
  refine z_iload_n 1 d_Mo_node_66 rfl rfl ?_
  refine z_iconst (v := 1) d_Mo_node_67 (by decide) ?_
  refine z_isub d_Mo_node_68 ?_
  refine z_topv (v := nI 4) (by decide) ?_
  refine z_iconst (v := (nI 2)) d_Mo_node_69 (by decide) ?_
  refine z_iload_n 2 d_Mo_node_70 rfl rfl ?_
  refine z_imul d_Mo_node_71 ?_
  refine z_topv (v := nI (2 * kk)) (pk_mul 2 kk) ?_
  refine z_iconst (v := 1) d_Mo_node_72 (by decide) ?_
  refine z_iadd d_Mo_node_73 ?_
  refine z_topv (v := nI (2 * kk + 1)) (nI_1 _) ?_
  refine z_iload_n 3 d_Mo_node_74 rfl rfl ?_
  refine z_iload 4 d_Mo_node_75 rfl ?_
  refine z_callV0 ((m_Mo_node_4E hs0 hst hM (kk := 2 * kk + 1) (by omega) o lf)) ym_Mo_node qM_Mo_218 qI_Mo_node qV_Mo_Mo_node zc_Mo hM.mo d_Mo_node_77 rfl (Nat.le_of_ble_eq_true rfl) ⟨Nat.zero_le _, Nat.zero_le _⟩ ⟨Nat.le_of_ble_eq_true rfl, Nat.le_of_ble_eq_true rfl⟩ ?_
  refine z_imul d_Mo_node_80 ?_
  refine z_iadd d_Mo_node_81 ?_
  refine z_iconst (v := 5) d_Mo_node_82 (by decide) ?_
  refine z_iadd d_Mo_node_83 ?_
  refine z_sipush (v := 9973) d_Mo_node_84 (by decide) ?_
  refine z_irem d_Mo_node_87 (by decide) ?_
  exact z_iret rfl (⟨rfl, rfl⟩) (by first | decide | omega) (by first | decide | omega) d_Mo_node_88
set_option maxHeartbeats 4000000 in
set_option maxRecDepth 100000 in
theorem m_Mo_node_6E {g0 : State} {d : zD} {l : Launch} {a0 : Array Value} (hs0 : zS0 d a0 g0) (hst : l.stackTraces = false) {G : zG} {B : Nat → Nat} {V : Nat → Nat → Int32} {nk ns ne ec : Nat} (hM : zM d B V nk ns ne ec G) {kk : Nat} (hkk : kk < 16384) (o lf : Int32) : zMet g0 d l y_Mo_node c_Mo_node 5 ((Option.some Jvm.ClassFile.FieldType.int)) 18 0 0 [.ref (B 0), .int (nI 6), .int (nI kk), .int o, .int lf] (G) (zEq (some (.int (znode V ne o lf 6 kk))) G) (zNo) := by
  have hnk : nk ≤ 8 := hM.2.1
  have hns : ns ≤ 6 := hM.2.2.1
  have hne : ne ≤ 64 := hM.2.2.2.1
  have hp2 : 2 ^ nk ≤ 256 := Nat.pow_le_pow_right (n := 2) (by decide) hnk
  refine z_entry hs0 hst (by decide) (Nat.le_of_ble_eq_true rfl) (fun p e s m args below meth c => ?_)
  refine z_iload_n 1 d_Mo_node_0 rfl rfl ?_
  refine z_if_ne 47 d_Mo_node_1 (by decide) (fun c_1 => ?_) (fun c_1 => absurd c_1 (by decide))
  refine z_bipush (v := 31) d_Mo_node_47 (by decide) ?_
  refine z_aload_n 0 d_Mo_node_49 rfl rfl ?_
  refine z_iload_n 1 d_Mo_node_50 rfl rfl ?_
  refine z_iconst (v := 1) d_Mo_node_51 (by decide) ?_
  refine z_isub d_Mo_node_52 ?_
  refine z_topv (v := nI 5) (by decide) ?_
  refine z_iconst (v := (nI 2)) d_Mo_node_53 (by decide) ?_
  refine z_iload_n 2 d_Mo_node_54 rfl rfl ?_
  refine z_imul d_Mo_node_55 ?_
  refine z_topv (v := nI (2 * kk)) (pk_mul 2 kk) ?_
  refine z_iload_n 3 d_Mo_node_56 rfl rfl ?_
  refine z_iload 4 d_Mo_node_57 rfl ?_
  refine z_callV0 ((m_Mo_node_5E hs0 hst hM (kk := 2 * kk) (by omega) o lf)) ym_Mo_node qM_Mo_218 qI_Mo_node qV_Mo_Mo_node zc_Mo hM.mo d_Mo_node_59 rfl (Nat.le_of_ble_eq_true rfl) ⟨Nat.zero_le _, Nat.zero_le _⟩ ⟨Nat.le_of_ble_eq_true rfl, Nat.le_of_ble_eq_true rfl⟩ ?_
  refine z_imul d_Mo_node_62 ?_
  refine z_bipush (v := 17) d_Mo_node_63 (by decide) ?_
  refine z_aload_n 0 d_Mo_node_65 rfl rfl ?_
  refine z_iload_n 1 d_Mo_node_66 rfl rfl ?_
  refine z_iconst (v := 1) d_Mo_node_67 (by decide) ?_
  refine z_isub d_Mo_node_68 ?_
  refine z_topv (v := nI 5) (by decide) ?_
  refine z_iconst (v := (nI 2)) d_Mo_node_69 (by decide) ?_
  refine z_iload_n 2 d_Mo_node_70 rfl rfl ?_
  refine z_imul d_Mo_node_71 ?_
  refine z_topv (v := nI (2 * kk)) (pk_mul 2 kk) ?_
  refine z_iconst (v := 1) d_Mo_node_72 (by decide) ?_
  refine z_iadd d_Mo_node_73 ?_
  refine z_topv (v := nI (2 * kk + 1)) (nI_1 _) ?_
  refine z_iload_n 3 d_Mo_node_74 rfl rfl ?_
  refine z_iload 4 d_Mo_node_75 rfl ?_
  refine z_callV0 ((m_Mo_node_5E hs0 hst hM (kk := 2 * kk + 1) (by omega) o lf)) ym_Mo_node qM_Mo_218 qI_Mo_node qV_Mo_Mo_node zc_Mo hM.mo d_Mo_node_77 rfl (Nat.le_of_ble_eq_true rfl) ⟨Nat.zero_le _, Nat.zero_le _⟩ ⟨Nat.le_of_ble_eq_true rfl, Nat.le_of_ble_eq_true rfl⟩ ?_
  refine z_imul d_Mo_node_80 ?_
  refine z_iadd d_Mo_node_81 ?_
  refine z_iconst (v := 5) d_Mo_node_82 (by decide) ?_
  refine z_iadd d_Mo_node_83 ?_
  refine z_sipush (v := 9973) d_Mo_node_84 (by decide) ?_
  refine z_irem d_Mo_node_87 (by decide) ?_
  exact z_iret rfl (⟨rfl, rfl⟩) (by first | decide | omega) (by first | decide | omega) d_Mo_node_88
set_option maxHeartbeats 4000000 in
set_option maxRecDepth 100000 in
theorem m_Mo_rootE {g0 : State} {d : zD} {l : Launch} {a0 : Array Value} (hs0 : zS0 d a0 g0) (hst : l.stackTraces = false) {G : zG} {B : Nat → Nat} {V : Nat → Nat → Int32} {nk ns ne ec : Nat} (hM : zM d B V nk ns ne ec G) : zMet g0 d l y_Mo_root c_Mo_root 1 ((Option.some Jvm.ClassFile.FieldType.int)) 20 0 0 [.ref (B 0)] (G) (zEq (some (.int (znode V ne (-1) 0 6 0))) G) (zNo) := by
  have hnk : nk ≤ 8 := hM.2.1
  have hns : ns ≤ 6 := hM.2.2.1
  have hne : ne ≤ 64 := hM.2.2.2.1
  have hp2 : 2 ^ nk ≤ 256 := Nat.pow_le_pow_right (n := 2) (by decide) hnk
  refine z_entry hs0 hst (by decide) (Nat.le_of_ble_eq_true rfl) (fun p e s m args below meth c => ?_)
  refine z_aload_n 0 d_Mo_root_0 rfl rfl ?_
  refine z_bipush (v := (nI 6)) d_Mo_root_1 (by decide) ?_
  refine z_iconst (v := (nI 0)) d_Mo_root_3 (by decide) ?_
  refine z_iconst (v := (-1)) d_Mo_root_4 (by decide) ?_
  refine z_iconst (v := 0) d_Mo_root_5 (by decide) ?_
  refine z_callV0 ((m_Mo_node_6E hs0 hst hM (kk := 0) (by decide) (-1) 0)) ym_Mo_node qM_Mo_218 qI_Mo_node qV_Mo_Mo_node zc_Mo hM.mo d_Mo_root_6 rfl (Nat.le_of_ble_eq_true rfl) ⟨Nat.zero_le _, Nat.zero_le _⟩ ⟨Nat.le_of_ble_eq_true rfl, Nat.le_of_ble_eq_true rfl⟩ ?_
  exact z_iret rfl (⟨rfl, rfl⟩) (by first | decide | omega) (by first | decide | omega) d_Mo_root_9
set_option maxHeartbeats 4000000 in
set_option maxRecDepth 100000 in
theorem m_Mo_bankNowE {g0 : State} {d : zD} {l : Launch} {a0 : Array Value} (hs0 : zS0 d a0 g0) (hst : l.stackTraces = false) {G : zG} {B : Nat → Nat} {V : Nat → Nat → Int32} {nk ns ne ec : Nat} (hM : zM d B V nk ns ne ec G) {w : Nat} (hw : w < 12) : zMet g0 d l y_Mo_bankNow c_Mo_bankNow 6 ((Option.some Jvm.ClassFile.FieldType.int)) 21 1 12 [.ref (B 0), .int (nI w)] (G) (fun r G1 => r = some (.int (mBkA V nk ns ne w)) ∧ zM d B V nk ns ne ec G1 ∧ mFr B nk ns ne G G1) (zNo) := by
  have hnk : nk ≤ 8 := hM.2.1
  have hns : ns ≤ 6 := hM.2.2.1
  have hne : ne ≤ 64 := hM.2.2.2.1
  have hp2 : 2 ^ nk ≤ 256 := Nat.pow_le_pow_right (n := 2) (by decide) hnk
  refine z_entry hs0 hst (by decide) (Nat.le_of_ble_eq_true rfl) (fun p e s m args below meth c => ?_)
  refine z_iconst (v := (nI 0)) d_Mo_bankNow_0 (by decide) ?_
  refine z_istore_n (L' := [(2, _), (0, _), (1, _)]) d_Mo_bankNow_1 rfl (by decide) rfl ?_
  refine z_iconst (v := (nI 0)) d_Mo_bankNow_2 (by decide) ?_
  refine z_istore_n (L' := [(3, _), (2, _), (0, _), (1, _)]) d_Mo_bankNow_3 rfl (by decide) rfl ?_
  refine z_iconst (v := (nI 0)) d_Mo_bankNow_4 (by decide) ?_
  refine z_istore (L' := [(4, _), (3, _), (2, _), (0, _), (1, _)]) d_Mo_bankNow_5 (by decide) rfl ?_
  refine z_iconst (v := (nI 0)) d_Mo_bankNow_7 (by decide) ?_
  refine z_istore (L' := [(5, _), (4, _), (3, _), (2, _), (0, _), (1, _)]) d_Mo_bankNow_8 (by decide) rfl ?_
  have key_10 : ∀ (n : Nat) (i : Nat), nk - i < n → (i ≤ nk) → Z g0 d y_Mo_bankNow c_Mo_bankNow 6 ((Option.some Jvm.ClassFile.FieldType.int)) [] p l e (zR 21 1 12) s m args below meth c (vx_MQ below (zQc g0 d (fun r G1 => r = some (.int (mBkA V nk ns ne w)) ∧ zM d B V nk ns ne ec G1 ∧ mFr B nk ns ne G G1)) (zXc g0 d (zNo)) args s 1 12 (zA g0)) 0 0 (G) [(5, .int (nI i)), (4, .int (nI 0)), (3, .int (nI 0)), (2, .int (nI (zcnt (fun k => decide (V (100 + k) 4 ≠ 0)) i))), (0, .ref (B 0)), (1, .int (nI w))] [] 10 := by
    intro n
    induction n with
    | zero => intro i h0; exact absurd h0 (Nat.not_lt_zero _)
    | succ n ih_10 =>
      intro i hm_10 hi
      refine z_iload 0 d_Mo_bankNow_10 rfl ?_
      refine z_aload_n 4 d_Mo_bankNow_12 rfl rfl ?_
      refine z_get zc_Mo 6 (by decide) qF_Mo_16 hM.mo rfl d_Mo_bankNow_13 ?_
      refine z_callF0 (m_AL_size hs0 hst hM.kl) ym_AL_size zF_AL_size qM_Mo_94 zc_AL hM.kl d_Mo_bankNow_16 rfl (Nat.le_of_ble_eq_true rfl) ⟨by decide, by decide⟩ ⟨Nat.le_of_ble_eq_true rfl, Nat.le_of_ble_eq_true rfl⟩ ?_
      refine z_icmp_ge 58 d_Mo_bankNow_21 (by decide) (fun c_21 => ?_) (fun c_21 => ?_)
      · skip
        obtain rfl : nk = i := by
          have := (nI_leI (a := nk) (b := i) (by omega) (by omega)).mp c_21
          omega
        refine z_iconst (v := (nI 0)) d_Mo_bankNow_58 (by decide) ?_
        refine z_istore (L' := [(5, _), (4, _), (3, _), (2, _), (0, _), (1, _)]) d_Mo_bankNow_59 (by decide) rfl ?_
        have key_61 : ∀ (n : Nat) (i : Nat), ns - i < n → (i ≤ ns) → Z g0 d y_Mo_bankNow c_Mo_bankNow 6 ((Option.some Jvm.ClassFile.FieldType.int)) [] p l e (zR 21 1 12) s m args below meth c (vx_MQ below (zQc g0 d (fun r G1 => r = some (.int (mBkA V nk ns ne w)) ∧ zM d B V nk ns ne ec G1 ∧ mFr B nk ns ne G G1)) (zXc g0 d (zNo)) args s 1 12 (zA g0)) 0 0 (G) [(5, .int (nI i)), (4, .int (zsum (fun i => nI (zpop 9 (zsetN (zst (V (300 + i)) (V (400 + i)) (V (200 + i) 3)) 8))) i)), (3, .int (zsum (fun i => nI (zpop 9 (zsetN (zgd (V (300 + i)) (V (400 + i)) (V (200 + i) 3)) 8))) i)), (2, .int (nI (zcnt (fun k => decide (V (100 + k) 4 ≠ 0)) nk))), (0, .ref (B 0)), (1, .int (nI w))] [] 61 := by
          intro n
          induction n with
          | zero => intro i h0; exact absurd h0 (Nat.not_lt_zero _)
          | succ n ih_61 =>
            intro i hm_61 hi
            refine z_iload 0 d_Mo_bankNow_61 rfl ?_
            refine z_aload_n 4 d_Mo_bankNow_63 rfl rfl ?_
            refine z_get zc_Mo 7 (by decide) qF_Mo_20 hM.mo rfl d_Mo_bankNow_64 ?_
            refine z_callF0 (m_AL_size hs0 hst hM.sl) ym_AL_size zF_AL_size qM_Mo_94 zc_AL hM.sl d_Mo_bankNow_67 rfl (Nat.le_of_ble_eq_true rfl) ⟨by decide, by decide⟩ ⟨Nat.le_of_ble_eq_true rfl, Nat.le_of_ble_eq_true rfl⟩ ?_
            refine z_icmp_ge 129 d_Mo_bankNow_72 (by decide) (fun c_72 => ?_) (fun c_72 => ?_)
            · skip
              obtain rfl : ns = i := by
                have := (nI_leI (a := ns) (b := i) (by omega) (by omega)).mp c_72
                omega
              refine z_bipush (v := 12) d_Mo_bankNow_129 (by decide) ?_
              refine z_newaI 12 qA_int (by decide) rfl (by decide) ⟨by decide, by decide⟩ d_Mo_bankNow_131 (fun a ha hab => ?_)
              have hMo : ∀ w, zM d B V nk ns ne ec (zu G a w) := fun w => hM.out (hM.nn_ ha)
              refine z_dup d_Mo_bankNow_133 rfl ?_
              refine z_iconst (v := (nI 0)) d_Mo_bankNow_134 (by decide) ?_
              refine z_aload_n 4 d_Mo_bankNow_135 rfl rfl ?_
              refine z_get zc_Mo 6 (by decide) qF_Mo_16 (hMo _).mo rfl d_Mo_bankNow_136 ?_
              refine z_callF0 (m_AL_size hs0 hst (hMo _).kl) ym_AL_size zF_AL_size qM_Mo_94 zc_AL (hMo _).kl d_Mo_bankNow_139 rfl (Nat.le_of_ble_eq_true rfl) ⟨by decide, by decide⟩ ⟨Nat.le_of_ble_eq_true rfl, Nat.le_of_ble_eq_true rfl⟩ ?_
              refine z_iastN zu_s (show 0 < 12 by decide) (by decide) d_Mo_bankNow_144 ?_
              refine z_one ?_
              refine z_dup d_Mo_bankNow_145 rfl ?_
              refine z_iconst (v := (nI 1)) d_Mo_bankNow_146 (by decide) ?_
              refine z_aload_n 4 d_Mo_bankNow_147 rfl rfl ?_
              refine z_get zc_Mo 7 (by decide) qF_Mo_20 (hMo _).mo rfl d_Mo_bankNow_148 ?_
              refine z_callF0 (m_AL_size hs0 hst (hMo _).sl) ym_AL_size zF_AL_size qM_Mo_94 zc_AL (hMo _).sl d_Mo_bankNow_151 rfl (Nat.le_of_ble_eq_true rfl) ⟨by decide, by decide⟩ ⟨Nat.le_of_ble_eq_true rfl, Nat.le_of_ble_eq_true rfl⟩ ?_
              refine z_iastN zu_s (show 1 < 12 by decide) (by decide) d_Mo_bankNow_156 ?_
              refine z_one ?_
              refine z_dup d_Mo_bankNow_157 rfl ?_
              refine z_iconst (v := (nI 2)) d_Mo_bankNow_158 (by decide) ?_
              refine z_aload_n 4 d_Mo_bankNow_159 rfl rfl ?_
              refine z_get zc_Mo 2 (by decide) qF_Mo_102 (hMo _).mo rfl d_Mo_bankNow_160 ?_
              refine z_iastN zu_s (show 2 < 12 by decide) (by decide) d_Mo_bankNow_163 ?_
              refine z_one ?_
              refine z_dup d_Mo_bankNow_164 rfl ?_
              refine z_iconst (v := (nI 3)) d_Mo_bankNow_165 (by decide) ?_
              refine z_aload_n 4 d_Mo_bankNow_166 rfl rfl ?_
              refine z_get zc_Mo 1 (by decide) qF_Mo_7 (hMo _).mo rfl d_Mo_bankNow_167 ?_
              refine z_iastN zu_s (show 3 < 12 by decide) (by decide) d_Mo_bankNow_170 ?_
              refine z_one ?_
              refine z_dup d_Mo_bankNow_171 rfl ?_
              refine z_iconst (v := (nI 4)) d_Mo_bankNow_172 (by decide) ?_
              refine z_aload_n 4 d_Mo_bankNow_173 rfl rfl ?_
              refine z_get zc_Mo 8 (by decide) qF_Mo_23 (hMo _).mo rfl d_Mo_bankNow_174 ?_
              refine z_callF0 (m_AL_size hs0 hst (hMo _).el) ym_AL_size zF_AL_size qM_Mo_94 zc_AL (hMo _).el d_Mo_bankNow_177 rfl (Nat.le_of_ble_eq_true rfl) ⟨by decide, by decide⟩ ⟨Nat.le_of_ble_eq_true rfl, Nat.le_of_ble_eq_true rfl⟩ ?_
              refine z_iastN zu_s (show 4 < 12 by decide) (by decide) d_Mo_bankNow_182 ?_
              refine z_one ?_
              refine z_dup d_Mo_bankNow_183 rfl ?_
              refine z_iconst (v := (nI 5)) d_Mo_bankNow_184 (by decide) ?_
              refine z_iload_n 5 d_Mo_bankNow_185 rfl rfl ?_
              refine z_iconst (v := 5) d_Mo_bankNow_186 (by decide) ?_
              refine z_icmp_ne 197 d_Mo_bankNow_187 (by decide) (fun c_187 => ?_) (fun c_187 => ?_)
              · skip
                refine z_iconst (v := 0) d_Mo_bankNow_197 (by decide) ?_
                refine z_iastN zu_s (show 5 < 12 by decide) (by decide) d_Mo_bankNow_198 ?_
                refine z_one ?_
                refine z_dup d_Mo_bankNow_199 rfl ?_
                refine z_bipush (v := (nI 6)) d_Mo_bankNow_200 (by decide) ?_
                refine z_aload_n 4 d_Mo_bankNow_202 rfl rfl ?_
                refine z_get zc_Mo 3 (by decide) qF_Mo_175 (hMo _).mo rfl d_Mo_bankNow_203 ?_
                refine z_iastN zu_s (show 6 < 12 by decide) (by decide) d_Mo_bankNow_206 ?_
                refine z_one ?_
                refine z_dup d_Mo_bankNow_207 rfl ?_
                refine z_bipush (v := (nI 7)) d_Mo_bankNow_208 (by decide) ?_
                refine z_aload_n 4 d_Mo_bankNow_210 rfl rfl ?_
                refine z_get zc_Mo 4 (by decide) qF_Mo_178 (hMo _).mo rfl d_Mo_bankNow_211 ?_
                refine z_iastN zu_s (show 7 < 12 by decide) (by decide) d_Mo_bankNow_214 ?_
                refine z_one ?_
                refine z_dup d_Mo_bankNow_215 rfl ?_
                refine z_bipush (v := (nI 8)) d_Mo_bankNow_216 (by decide) ?_
                refine z_aload_n 4 d_Mo_bankNow_218 rfl rfl ?_
                refine z_get zc_Mo 5 (by decide) qF_Mo_169 (hMo _).mo rfl d_Mo_bankNow_219 ?_
                refine z_iastN zu_s (show 8 < 12 by decide) (by decide) d_Mo_bankNow_222 ?_
                refine z_one ?_
                refine z_dup d_Mo_bankNow_223 rfl ?_
                refine z_bipush (v := (nI 9)) d_Mo_bankNow_224 (by decide) ?_
                refine z_iload_n 3 d_Mo_bankNow_226 rfl rfl ?_
                refine z_iastN zu_s (show 9 < 12 by decide) (by decide) d_Mo_bankNow_227 ?_
                refine z_one ?_
                refine z_dup d_Mo_bankNow_228 rfl ?_
                refine z_bipush (v := (nI 10)) d_Mo_bankNow_229 (by decide) ?_
                refine z_iload_n 2 d_Mo_bankNow_231 rfl rfl ?_
                refine z_iastN zu_s (show 10 < 12 by decide) (by decide) d_Mo_bankNow_232 ?_
                refine z_one ?_
                refine z_dup d_Mo_bankNow_233 rfl ?_
                refine z_bipush (v := (nI 11)) d_Mo_bankNow_234 (by decide) ?_
                refine z_iload 1 d_Mo_bankNow_236 rfl ?_
                refine z_iastN zu_s (show 11 < 12 by decide) (by decide) d_Mo_bankNow_238 ?_
                refine z_one ?_
                refine z_astore (L' := [(5, _), (4, _), (3, _), (2, _), (0, _), (1, _)]) d_Mo_bankNow_239 (by decide) rfl ?_
                refine z_aload 0 d_Mo_bankNow_241 rfl ?_
                refine z_iload_n 5 d_Mo_bankNow_243 rfl rfl ?_
                refine z_ialdN zu_s (hw) (by decide) d_Mo_bankNow_244 ?_
                exact z_iret rfl (⟨by unfold mBkA; first | rw [if_pos c_187] | rw [if_neg c_187], hMo _, zFr.new ha⟩) (by first | decide | omega) (by first | decide | omega) d_Mo_bankNow_245
              · skip
                refine z_aload_n 4 d_Mo_bankNow_190 rfl rfl ?_
                refine z_callV1 ((m_Mo_rootE hs0 hst (hMo _))) ym_Mo_root qM_Mo_222 qI_Mo_root qV_Mo_Mo_root zc_Mo (hMo _).mo d_Mo_bankNow_191 rfl (Nat.le_of_ble_eq_true rfl) ⟨by decide, by decide⟩ ⟨Nat.le_of_ble_eq_true rfl, Nat.le_of_ble_eq_true rfl⟩ ?_
                refine z_goto 198 d_Mo_bankNow_194 (by decide) ?_
                refine z_iastN zu_s (show 5 < 12 by decide) (by decide) d_Mo_bankNow_198 ?_
                refine z_one ?_
                refine z_dup d_Mo_bankNow_199 rfl ?_
                refine z_bipush (v := (nI 6)) d_Mo_bankNow_200 (by decide) ?_
                refine z_aload_n 4 d_Mo_bankNow_202 rfl rfl ?_
                refine z_get zc_Mo 3 (by decide) qF_Mo_175 (hMo _).mo rfl d_Mo_bankNow_203 ?_
                refine z_iastN zu_s (show 6 < 12 by decide) (by decide) d_Mo_bankNow_206 ?_
                refine z_one ?_
                refine z_dup d_Mo_bankNow_207 rfl ?_
                refine z_bipush (v := (nI 7)) d_Mo_bankNow_208 (by decide) ?_
                refine z_aload_n 4 d_Mo_bankNow_210 rfl rfl ?_
                refine z_get zc_Mo 4 (by decide) qF_Mo_178 (hMo _).mo rfl d_Mo_bankNow_211 ?_
                refine z_iastN zu_s (show 7 < 12 by decide) (by decide) d_Mo_bankNow_214 ?_
                refine z_one ?_
                refine z_dup d_Mo_bankNow_215 rfl ?_
                refine z_bipush (v := (nI 8)) d_Mo_bankNow_216 (by decide) ?_
                refine z_aload_n 4 d_Mo_bankNow_218 rfl rfl ?_
                refine z_get zc_Mo 5 (by decide) qF_Mo_169 (hMo _).mo rfl d_Mo_bankNow_219 ?_
                refine z_iastN zu_s (show 8 < 12 by decide) (by decide) d_Mo_bankNow_222 ?_
                refine z_one ?_
                refine z_dup d_Mo_bankNow_223 rfl ?_
                refine z_bipush (v := (nI 9)) d_Mo_bankNow_224 (by decide) ?_
                refine z_iload_n 3 d_Mo_bankNow_226 rfl rfl ?_
                refine z_iastN zu_s (show 9 < 12 by decide) (by decide) d_Mo_bankNow_227 ?_
                refine z_one ?_
                refine z_dup d_Mo_bankNow_228 rfl ?_
                refine z_bipush (v := (nI 10)) d_Mo_bankNow_229 (by decide) ?_
                refine z_iload_n 2 d_Mo_bankNow_231 rfl rfl ?_
                refine z_iastN zu_s (show 10 < 12 by decide) (by decide) d_Mo_bankNow_232 ?_
                refine z_one ?_
                refine z_dup d_Mo_bankNow_233 rfl ?_
                refine z_bipush (v := (nI 11)) d_Mo_bankNow_234 (by decide) ?_
                refine z_iload 1 d_Mo_bankNow_236 rfl ?_
                refine z_iastN zu_s (show 11 < 12 by decide) (by decide) d_Mo_bankNow_238 ?_
                refine z_one ?_
                refine z_astore (L' := [(5, _), (4, _), (3, _), (2, _), (0, _), (1, _)]) d_Mo_bankNow_239 (by decide) rfl ?_
                refine z_aload 0 d_Mo_bankNow_241 rfl ?_
                refine z_iload_n 5 d_Mo_bankNow_243 rfl rfl ?_
                refine z_ialdN zu_s (hw) (by decide) d_Mo_bankNow_244 ?_
                exact z_iret rfl (⟨by unfold mBkA; first | rw [if_pos c_187] | rw [if_neg c_187], hMo _, zFr.new ha⟩) (by first | decide | omega) (by first | decide | omega) d_Mo_bankNow_245
            · skip
              have hi6 : i < ns := Nat.lt_of_not_le fun q => c_72 (nI_le q (by omega))
              refine z_iload_n 2 d_Mo_bankNow_75 rfl rfl ?_
              refine z_aload_n 4 d_Mo_bankNow_76 rfl rfl ?_
              refine z_get zc_Mo 7 (by decide) qF_Mo_20 hM.mo rfl d_Mo_bankNow_77 ?_
              refine z_iload 0 d_Mo_bankNow_80 rfl ?_
              refine z_callF0 (m_AL_get hs0 hst (hM.sA hi6) hi6 (if_pos hi6)) ym_AL_get zF_AL_get qM_Mo_51 zc_AL (hM.sA hi6).1 d_Mo_bankNow_82 rfl (Nat.le_of_ble_eq_true rfl) ⟨by decide, by decide⟩ ⟨Nat.le_of_ble_eq_true rfl, Nat.le_of_ble_eq_true rfl⟩ ?_
              refine z_castS zc_MS qK_Mo_47 (hM.se hi6).1 d_Mo_bankNow_87 ?_
              refine z_callV0 (m_MS_good hs0 hst (hM.se hi6)) ym_MS_good qM_Mo_62 qI_MS_good qV_MS_MS_good zc_MS (hM.se hi6).1 d_Mo_bankNow_90 rfl (Nat.le_of_ble_eq_true rfl) ⟨by decide, by decide⟩ ⟨Nat.le_of_ble_eq_true rfl, Nat.le_of_ble_eq_true rfl⟩ ?_
              refine z_topv (zset_N (zgd (V (300 + i)) (V (400 + i)) (V (200 + i) 3)) 8 (by decide)).1 ?_
              refine z_callS0 ((m_Mo_size hs0 hst (nn := zsetN (zgd (V (300 + i)) (V (400 + i)) (V (200 + i) 3)) 8) (by have := (zset_N (zgd (V (300 + i)) (V (400 + i)) (V (200 + i) 3)) 8 (by decide)).2; omega))) ym_Mo_size qM_Mo_66 qS_Mo_size d_Mo_bankNow_93 rfl (Nat.le_of_ble_eq_true rfl) ⟨by decide, by decide⟩ ⟨Nat.le_of_ble_eq_true rfl, Nat.le_of_ble_eq_true rfl⟩ ?_
              refine z_iadd d_Mo_bankNow_96 ?_
              refine z_topv (v := zsum (fun i => nI (zpop 9 (zsetN (zgd (V (300 + i)) (V (400 + i)) (V (200 + i) 3)) 8))) (i + 1)) rfl ?_
              refine z_istore_n (L' := [(3, _), (5, _), (4, _), (2, _), (0, _), (1, _)]) d_Mo_bankNow_97 rfl (by decide) rfl ?_
              refine z_iload 2 d_Mo_bankNow_98 rfl ?_
              refine z_aload_n 4 d_Mo_bankNow_100 rfl rfl ?_
              refine z_get zc_Mo 7 (by decide) qF_Mo_20 hM.mo rfl d_Mo_bankNow_101 ?_
              refine z_iload 1 d_Mo_bankNow_104 rfl ?_
              refine z_callF0 (m_AL_get hs0 hst (hM.sA hi6) hi6 (if_pos hi6)) ym_AL_get zF_AL_get qM_Mo_51 zc_AL (hM.sA hi6).1 d_Mo_bankNow_106 rfl (Nat.le_of_ble_eq_true rfl) ⟨by decide, by decide⟩ ⟨Nat.le_of_ble_eq_true rfl, Nat.le_of_ble_eq_true rfl⟩ ?_
              refine z_castS zc_MS qK_Mo_47 (hM.se hi6).1 d_Mo_bankNow_111 ?_
              refine z_callV0 (m_MS_stale hs0 hst (hM.se hi6)) ym_MS_stale qM_Mo_156 qI_MS_stale qV_MS_MS_stale zc_MS (hM.se hi6).1 d_Mo_bankNow_114 rfl (Nat.le_of_ble_eq_true rfl) ⟨by decide, by decide⟩ ⟨Nat.le_of_ble_eq_true rfl, Nat.le_of_ble_eq_true rfl⟩ ?_
              refine z_topv (zset_N (zst (V (300 + i)) (V (400 + i)) (V (200 + i) 3)) 8 (by decide)).1 ?_
              refine z_callS0 ((m_Mo_size hs0 hst (nn := zsetN (zst (V (300 + i)) (V (400 + i)) (V (200 + i) 3)) 8) (by have := (zset_N (zst (V (300 + i)) (V (400 + i)) (V (200 + i) 3)) 8 (by decide)).2; omega))) ym_Mo_size qM_Mo_66 qS_Mo_size d_Mo_bankNow_117 rfl (Nat.le_of_ble_eq_true rfl) ⟨by decide, by decide⟩ ⟨Nat.le_of_ble_eq_true rfl, Nat.le_of_ble_eq_true rfl⟩ ?_
              refine z_iadd d_Mo_bankNow_120 ?_
              refine z_topv (v := zsum (fun i => nI (zpop 9 (zsetN (zst (V (300 + i)) (V (400 + i)) (V (200 + i) 3)) 8))) (i + 1)) rfl ?_
              refine z_istore (L' := [(4, _), (3, _), (5, _), (2, _), (0, _), (1, _)]) d_Mo_bankNow_121 (by decide) rfl ?_
              refine z_iinc (v := nI (i + 1)) (L' := [(5, _), (4, _), (3, _), (2, _), (0, _), (1, _)]) 2 d_Mo_bankNow_123 rfl (nI_1 i) (by decide) rfl ?_
              refine z_goto 61 d_Mo_bankNow_126 (by decide) ?_
              exact ih_61 (i + 1) (by omega) (by omega)
        exact key_61 (ns + 1) 0 (by omega) (by omega)
      · skip
        have hi6 : i < nk := Nat.lt_of_not_le fun q => c_21 (nI_le q (by omega))
        refine z_iload_n 3 d_Mo_bankNow_24 rfl rfl ?_
        refine z_aload_n 4 d_Mo_bankNow_25 rfl rfl ?_
        refine z_get zc_Mo 6 (by decide) qF_Mo_16 hM.mo rfl d_Mo_bankNow_26 ?_
        refine z_iload 0 d_Mo_bankNow_29 rfl ?_
        refine z_callF0 (m_AL_get hs0 hst (hM.kA hi6) hi6 (if_pos hi6)) ym_AL_get zF_AL_get qM_Mo_51 zc_AL (hM.kA hi6).1 d_Mo_bankNow_31 rfl (Nat.le_of_ble_eq_true rfl) ⟨by decide, by decide⟩ ⟨Nat.le_of_ble_eq_true rfl, Nat.le_of_ble_eq_true rfl⟩ ?_
        refine z_castS zc_MK qK_Mo_57 (hM.ke hi6) d_Mo_bankNow_36 ?_
        refine z_get zc_MK 4 (by decide) qF_Mo_184 (hM.ke hi6) rfl d_Mo_bankNow_39 ?_
        refine z_if_eq 49 d_Mo_bankNow_42 (by decide) (fun c_42 => ?_) (fun c_42 => ?_)
        · skip
          have hz5 : nI (zcnt (fun k => decide (V (100 + k) 4 ≠ 0)) i) + 0 = nI (zcnt (fun k => decide (V (100 + k) 4 ≠ 0)) (i + 1)) := by rw [zcnt_skip (f := (fun k => decide (V (100 + k) 4 ≠ 0))) (decide_eq_false (p := V (100 + i) 4 ≠ 0) (fun q => q c_42)), Int32.add_zero]
          refine z_iconst (v := 0) d_Mo_bankNow_49 (by decide) ?_
          refine z_iadd d_Mo_bankNow_50 ?_
          refine z_topv hz5 ?_
          refine z_istore_n (L' := [(2, _), (5, _), (4, _), (3, _), (0, _), (1, _)]) d_Mo_bankNow_51 rfl (by decide) rfl ?_
          refine z_iinc (v := nI (i + 1)) (L' := [(5, _), (2, _), (4, _), (3, _), (0, _), (1, _)]) 1 d_Mo_bankNow_52 rfl (nI_1 i) (by decide) rfl ?_
          refine z_goto 10 d_Mo_bankNow_55 (by decide) ?_
          refine z_sub (L' := [(5, _), (4, _), (3, _), (2, _), (0, _), (1, _)]) [0, 2, 3, 1, 4, 5] rfl ?_
          exact ih_10 (i + 1) (by omega) (by omega)
        · skip
          have hz5 : nI (zcnt (fun k => decide (V (100 + k) 4 ≠ 0)) i) + 1 = nI (zcnt (fun k => decide (V (100 + k) 4 ≠ 0)) (i + 1)) := by rw [zcnt_step (f := (fun k => decide (V (100 + k) 4 ≠ 0))) (decide_eq_true (p := V (100 + i) 4 ≠ 0) c_42)]; exact nI_1 _
          refine z_iconst (v := 1) d_Mo_bankNow_45 (by decide) ?_
          refine z_goto 50 d_Mo_bankNow_46 (by decide) ?_
          refine z_iadd d_Mo_bankNow_50 ?_
          refine z_topv hz5 ?_
          refine z_istore_n (L' := [(2, _), (5, _), (4, _), (3, _), (0, _), (1, _)]) d_Mo_bankNow_51 rfl (by decide) rfl ?_
          refine z_iinc (v := nI (i + 1)) (L' := [(5, _), (2, _), (4, _), (3, _), (0, _), (1, _)]) 1 d_Mo_bankNow_52 rfl (nI_1 i) (by decide) rfl ?_
          refine z_goto 10 d_Mo_bankNow_55 (by decide) ?_
          refine z_sub (L' := [(5, _), (4, _), (3, _), (2, _), (0, _), (1, _)]) [0, 2, 3, 1, 4, 5] rfl ?_
          exact ih_10 (i + 1) (by omega) (by omega)
  exact key_10 (nk + 1) 0 (by omega) (by omega)
set_option maxHeartbeats 4000000 in
set_option maxRecDepth 100000 in
theorem m_Mo_bankE {g0 : State} {d : zD} {l : Launch} {a0 : Array Value} (hs0 : zS0 d a0 g0) (hst : l.stackTraces = false) {G : zG} {B : Nat → Nat} {V : Nat → Nat → Int32} {nk ns ne ec : Nat} (hM : zM d B V nk ns ne ec G) (w : Int32) : zMet g0 d l y_Mo_bank c_Mo_bank 2 ((Option.some Jvm.ClassFile.FieldType.int)) 22 1 12 [.ref (B 0), .int w] (G) (mAq d B nk ns ne ec V G (rBk nk ns ne w)) (zNo) := by
  have hnk : nk ≤ 8 := hM.2.1
  have hns : ns ≤ 6 := hM.2.2.1
  have hne : ne ≤ 64 := hM.2.2.2.1
  have hp2 : 2 ^ nk ≤ 256 := Nat.pow_le_pow_right (n := 2) (by decide) hnk
  refine z_entry hs0 hst (by decide) (Nat.le_of_ble_eq_true rfl) (fun p e s m args below meth c => ?_)
  refine z_aload_n 0 d_Mo_bank_0 rfl rfl ?_
  refine z_iconst (v := 0) d_Mo_bank_1 (by decide) ?_
  refine z_put zc_Mo 0 (by decide) qF_Mo_36 hM.mo rfl rfl rfl (Nat.le_of_ble_eq_true rfl) d_Mo_bank_2 ?_
  obtain ⟨V1, hM1, hK1, hF1, hT1⟩ := hM.putT 0
  refine z_iload_n 1 d_Mo_bank_5 rfl rfl ?_
  refine z_iconst (v := 0) d_Mo_bank_6 (by decide) ?_
  refine z_bipush (v := (nI 11)) d_Mo_bank_7 (by decide) ?_
  refine z_callS0 (m_Mo_in hs0 hst w 0 _) ym_Mo_in qM_Mo_115 qS_Mo_in d_Mo_bank_9 rfl (Nat.le_of_ble_eq_true rfl) ⟨by decide, by decide⟩ ⟨Nat.le_of_ble_eq_true rfl, Nat.le_of_ble_eq_true rfl⟩ ?_
  refine z_if_ne 21 d_Mo_bank_12 (by decide) (fun c_12 => ?_) (fun c_12 => ?_)
  · skip
    obtain ⟨wi, hwi, rfl⟩ := zin_l ((zb_n0 _).mp c_12) (by decide)
    refine z_aload_n 0 d_Mo_bank_21 rfl rfl ?_
    refine z_iload_n 1 d_Mo_bank_22 rfl rfl ?_
    refine z_callVp1 ((m_Mo_bankNowE hs0 hst hM1 hwi)) ym_Mo_bankNow qM_Mo_225 qI_Mo_bankNow qV_Mo_Mo_bankNow zc_Mo hM1.mo d_Mo_bank_23 rfl (Nat.le_of_ble_eq_true rfl) ⟨by decide, by decide⟩ ⟨Nat.le_of_ble_eq_true rfl, Nat.le_of_ble_eq_true rfl⟩ (fun r_23 G_23 hp_23 => ?_)
    obtain ⟨hr_23, hM2, hF2⟩ := hp_23
    obtain rfl : r_23 = _ := hr_23
    exact z_iret rfl (⟨_, V1, rfl, Or.inr ⟨wi, hwi, rfl, hT1, rfl⟩, hM2, hK1, hF1.tr hF2⟩) (by first | decide | omega) (by first | decide | omega) d_Mo_bank_26
  · skip
    refine z_aload_n 0 d_Mo_bank_15 rfl rfl ?_
    refine z_iconst (v := 1) d_Mo_bank_16 (by decide) ?_
    refine z_callV0 (m_Mo_no hs0 hst hM1.mo 1) ym_Mo_no qM_Mo_119 qI_Mo_no qV_Mo_Mo_no zc_Mo hM1.mo d_Mo_bank_17 rfl (Nat.le_of_ble_eq_true rfl) ⟨by decide, by decide⟩ ⟨Nat.le_of_ble_eq_true rfl, Nat.le_of_ble_eq_true rfl⟩ ?_
    obtain ⟨V9, hM9, hK9, hF9, hT9⟩ := hM1.putT 1
    exact z_iret rfl (⟨_, V9, rfl, Or.inl ⟨(zb_0 _).mp c_12, hT9⟩, hM9, hK1.tr hK9, hF1.tr hF9⟩) (by first | decide | omega) (by first | decide | omega) d_Mo_bank_20
