
/-- a number of the tree's row r, as the reference reckons it; one leaf may be told otherwise -/
def znode (W : Nat → Nat → Int32) (ne : Nat) (o lf : Int32) : Nat → Nat → Int32
  | 0, k => if nI k = o then lf else if k < ne then W (500 + k) 3 else 0
  | r + 1, k => zr9 (31 * znode W ne o lf r (2 * k) + 17 * znode W ne o lf r (2 * k + 1) + 5)

def rPv (ne : Nat) (x w t b : Int32) (W : Nat → Nat → Int32) : Prop := (zin x 0 (nI ne - 1) = false ∧ t = 1) ∨ (∃ e, e < ne ∧ x = nI e ∧ ((zin w 0 9972 = false ∧ t = 2) ∨ (zin w 0 9972 = true ∧ t = 0 ∧ b = zb (decide (znode W ne (nI e) w 6 0 = znode W ne (-1) 0 6 0)))))

set_option maxHeartbeats 4000000 in
set_option maxRecDepth 100000 in
theorem m_Mo_node_0E {g0 : State} {d : zD} {l : Launch} {a0 : Array Value} (hs0 : zS0 d a0 g0) (hst : l.stackTraces = false) {G : zG} {B : Nat → Nat} {V : Nat → Nat → Int32} {nk ns ne ec : Nat} (hM : zM d B V nk ns ne ec G) {kk : Nat} (hkk : kk < 1048576) (o lf : Int32) : zMet g0 d l y_Mo_node c_Mo_node 5 ((Option.some Jvm.ClassFile.FieldType.int)) 12 0 0 [.ref (B 0), .int (nI 0), .int (nI kk), .int o, .int lf] (G) (zEq (some (.int (znode V ne o lf 0 kk))) G) (zNo) := by
  have hnk : nk ≤ 8 := hM.2.1
  have hns : ns ≤ 6 := hM.2.2.1
  have hne : ne ≤ 64 := hM.2.2.2.1
  have hp2 : 2 ^ nk ≤ 256 := Nat.pow_le_pow_right (n := 2) (by decide) hnk
  refine z_entry hs0 hst (by decide) (Nat.le_of_ble_eq_true rfl) (fun p e s m args below meth c => ?_)
  refine z_iload_n 1 d_Mo_node_0 rfl rfl ?_
  refine z_if_ne 47 d_Mo_node_1 (by decide) (fun c_1 => absurd nI_0 c_1) (fun c_1 => ?_)
  refine z_iload_n 2 d_Mo_node_4 rfl rfl ?_
  refine z_iload_n 3 d_Mo_node_5 rfl rfl ?_
  refine z_icmp_ne 14 d_Mo_node_6 (by decide) (fun c_6 => ?_) (fun c_6 => ?_)
  · skip
    refine z_iload_n 2 d_Mo_node_14 rfl rfl ?_
    refine z_aload_n 0 d_Mo_node_15 rfl rfl ?_
    refine z_get zc_Mo 8 (by decide) qF_Mo_23 hM.mo rfl d_Mo_node_16 ?_
    refine z_callF0 (m_AL_size hs0 hst hM.el) ym_AL_size zF_AL_size qM_Mo_94 zc_AL hM.el d_Mo_node_19 rfl (Nat.le_of_ble_eq_true rfl) ⟨Nat.zero_le _, Nat.zero_le _⟩ ⟨Nat.le_of_ble_eq_true rfl, Nat.le_of_ble_eq_true rfl⟩ ?_
    refine z_icmp_ge 45 d_Mo_node_24 (by decide) (fun c_24 => ?_) (fun c_24 => ?_)
    · skip
      have hn6 : ¬ kk < ne := Nat.not_lt.mpr ((nI_leI (a := ne) (b := kk) (by omega) (by omega)).mp c_24)
      refine z_iconst (v := 0) d_Mo_node_45 (by decide) ?_
      exact z_iret rfl (⟨by show _ = some (Value.int (if nI kk = o then lf else if kk < ne then V (500 + kk) 3 else 0)); first | rw [if_pos c_6] | rw [if_neg c_6, if_pos he6] | rw [if_neg c_6, if_neg hn6], rfl⟩) (by first | decide | omega) (by first | decide | omega) d_Mo_node_46
    · skip
      have he6 : kk < ne := Nat.lt_of_not_le fun q => c_24 (nI_le q (by omega))
      refine z_aload_n 0 d_Mo_node_27 rfl rfl ?_
      refine z_get zc_Mo 8 (by decide) qF_Mo_23 hM.mo rfl d_Mo_node_28 ?_
      refine z_iload_n 2 d_Mo_node_31 rfl rfl ?_
      refine z_callF0 (m_AL_get hs0 hst (hM.eA he6) he6 (if_pos he6)) ym_AL_get zF_AL_get qM_Mo_51 zc_AL (hM.eA he6).1 d_Mo_node_32 rfl (Nat.le_of_ble_eq_true rfl) ⟨Nat.zero_le _, Nat.zero_le _⟩ ⟨Nat.le_of_ble_eq_true rfl, Nat.le_of_ble_eq_true rfl⟩ ?_
      refine z_castI qK_Mo_217 (hM.en he6) d_Mo_node_37 ?_
      refine z_iconst (v := (nI 3)) d_Mo_node_40 (by decide) ?_
      refine z_ialdN (hM.en he6) (show 3 < 4 by decide) (by decide) d_Mo_node_41 ?_
      refine z_goto 46 d_Mo_node_42 (by decide) ?_
      exact z_iret rfl (⟨by show _ = some (Value.int (if nI kk = o then lf else if kk < ne then V (500 + kk) 3 else 0)); first | rw [if_pos c_6] | rw [if_neg c_6, if_pos he6] | rw [if_neg c_6, if_neg hn6], rfl⟩) (by first | decide | omega) (by first | decide | omega) d_Mo_node_46
  · skip
    refine z_iload 4 d_Mo_node_9 rfl ?_
    refine z_goto 46 d_Mo_node_11 (by decide) ?_
    exact z_iret rfl (⟨by show _ = some (Value.int (if nI kk = o then lf else if kk < ne then V (500 + kk) 3 else 0)); first | rw [if_pos c_6] | rw [if_neg c_6, if_pos he6] | rw [if_neg c_6, if_neg hn6], rfl⟩) (by first | decide | omega) (by first | decide | omega) d_Mo_node_46
set_option maxHeartbeats 4000000 in
set_option maxRecDepth 100000 in
theorem m_Mo_node_1E {g0 : State} {d : zD} {l : Launch} {a0 : Array Value} (hs0 : zS0 d a0 g0) (hst : l.stackTraces = false) {G : zG} {B : Nat → Nat} {V : Nat → Nat → Int32} {nk ns ne ec : Nat} (hM : zM d B V nk ns ne ec G) {kk : Nat} (hkk : kk < 524288) (o lf : Int32) : zMet g0 d l y_Mo_node c_Mo_node 5 ((Option.some Jvm.ClassFile.FieldType.int)) 13 0 0 [.ref (B 0), .int (nI 1), .int (nI kk), .int o, .int lf] (G) (zEq (some (.int (znode V ne o lf 1 kk))) G) (zNo) := by
  have hnk : nk ≤ 8 := hM.2.1
  have hns : ns ≤ 6 := hM.2.2.1
  have hne : ne ≤ 64 := hM.2.2.2.1
  have hp2 : 2 ^ nk ≤ 256 := Nat.pow_le_pow_right (n := 2) (by decide) hnk
  refine z_entry hs0 hst (by decide) (Nat.le_of_ble_eq_true rfl) (fun p e s m args below meth c => ?_)
  refine z_iload_n 1 d_Mo_node_0 rfl rfl ?_
  refine z_if_ne 47 d_Mo_node_1 (by decide) (fun c_1 => ?_) (fun c_1 => absurd c_1 (by decide))
  refine z_bipush (v := 31) d_Mo_node_47 (by decide) ?_
  refine z_aload_n 0 d_Mo_node_49 rfl rfl ?_
  refine z_iload_n 1 d_Mo_node_50 rfl rfl ?_
  refine z_iconst (v := 1) d_Mo_node_51 (by decide) ?_
  refine z_isub d_Mo_node_52 ?_
  refine z_topv (v := nI 0) (by decide) ?_
  refine z_iconst (v := (nI 2)) d_Mo_node_53 (by decide) ?_
  refine z_iload_n 2 d_Mo_node_54 rfl rfl ?_
  refine z_imul d_Mo_node_55 ?_
  refine z_topv (v := nI (2 * kk)) (pk_mul 2 kk) ?_
  refine z_iload_n 3 d_Mo_node_56 rfl rfl ?_
  refine z_iload 4 d_Mo_node_57 rfl ?_
  refine z_callV0 ((m_Mo_node_0E hs0 hst hM (kk := 2 * kk) (by omega) o lf)) ym_Mo_node qM_Mo_218 qI_Mo_node qV_Mo_Mo_node zc_Mo hM.mo d_Mo_node_59 rfl (Nat.le_of_ble_eq_true rfl) ⟨Nat.zero_le _, Nat.zero_le _⟩ ⟨Nat.le_of_ble_eq_true rfl, Nat.le_of_ble_eq_true rfl⟩ ?_
  refine z_imul d_Mo_node_62 ?_
  refine z_bipush (v := 17) d_Mo_node_63 (by decide) ?_
  refine z_aload_n 0 d_Mo_node_65 rfl rfl ?_
  refine z_iload_n 1 d_Mo_node_66 rfl rfl ?_
  refine z_iconst (v := 1) d_Mo_node_67 (by decide) ?_
  refine z_isub d_Mo_node_68 ?_
  refine z_topv (v := nI 0) (by decide) ?_
  refine z_iconst (v := (nI 2)) d_Mo_node_69 (by decide) ?_
  refine z_iload_n 2 d_Mo_node_70 rfl rfl ?_
  refine z_imul d_Mo_node_71 ?_
  refine z_topv (v := nI (2 * kk)) (pk_mul 2 kk) ?_
  refine z_iconst (v := 1) d_Mo_node_72 (by decide) ?_
  refine z_iadd d_Mo_node_73 ?_
  refine z_topv (v := nI (2 * kk + 1)) (nI_1 _) ?_
  refine z_iload_n 3 d_Mo_node_74 rfl rfl ?_
  refine z_iload 4 d_Mo_node_75 rfl ?_
  refine z_callV0 ((m_Mo_node_0E hs0 hst hM (kk := 2 * kk + 1) (by omega) o lf)) ym_Mo_node qM_Mo_218 qI_Mo_node qV_Mo_Mo_node zc_Mo hM.mo d_Mo_node_77 rfl (Nat.le_of_ble_eq_true rfl) ⟨Nat.zero_le _, Nat.zero_le _⟩ ⟨Nat.le_of_ble_eq_true rfl, Nat.le_of_ble_eq_true rfl⟩ ?_
  refine z_imul d_Mo_node_80 ?_
  refine z_iadd d_Mo_node_81 ?_
  refine z_iconst (v := 5) d_Mo_node_82 (by decide) ?_
  refine z_iadd d_Mo_node_83 ?_
  refine z_sipush (v := 9973) d_Mo_node_84 (by decide) ?_
  refine z_irem d_Mo_node_87 (by decide) ?_
  exact z_iret rfl (⟨rfl, rfl⟩) (by first | decide | omega) (by first | decide | omega) d_Mo_node_88
set_option maxHeartbeats 4000000 in
set_option maxRecDepth 100000 in
theorem m_Mo_node_2E {g0 : State} {d : zD} {l : Launch} {a0 : Array Value} (hs0 : zS0 d a0 g0) (hst : l.stackTraces = false) {G : zG} {B : Nat → Nat} {V : Nat → Nat → Int32} {nk ns ne ec : Nat} (hM : zM d B V nk ns ne ec G) {kk : Nat} (hkk : kk < 262144) (o lf : Int32) : zMet g0 d l y_Mo_node c_Mo_node 5 ((Option.some Jvm.ClassFile.FieldType.int)) 14 0 0 [.ref (B 0), .int (nI 2), .int (nI kk), .int o, .int lf] (G) (zEq (some (.int (znode V ne o lf 2 kk))) G) (zNo) := by
  have hnk : nk ≤ 8 := hM.2.1
  have hns : ns ≤ 6 := hM.2.2.1
  have hne : ne ≤ 64 := hM.2.2.2.1
  have hp2 : 2 ^ nk ≤ 256 := Nat.pow_le_pow_right (n := 2) (by decide) hnk
  refine z_entry hs0 hst (by decide) (Nat.le_of_ble_eq_true rfl) (fun p e s m args below meth c => ?_)
  refine z_iload_n 1 d_Mo_node_0 rfl rfl ?_
  refine z_if_ne 47 d_Mo_node_1 (by decide) (fun c_1 => ?_) (fun c_1 => absurd c_1 (by decide))
  refine z_bipush (v := 31) d_Mo_node_47 (by decide) ?_
  refine z_aload_n 0 d_Mo_node_49 rfl rfl ?_
  refine z_iload_n 1 d_Mo_node_50 rfl rfl ?_
  refine z_iconst (v := 1) d_Mo_node_51 (by decide) ?_
  refine z_isub d_Mo_node_52 ?_
  refine z_topv (v := nI 1) (by decide) ?_
  refine z_iconst (v := (nI 2)) d_Mo_node_53 (by decide) ?_
  refine z_iload_n 2 d_Mo_node_54 rfl rfl ?_
  refine z_imul d_Mo_node_55 ?_
  refine z_topv (v := nI (2 * kk)) (pk_mul 2 kk) ?_
  refine z_iload_n 3 d_Mo_node_56 rfl rfl ?_
  refine z_iload 4 d_Mo_node_57 rfl ?_
  refine z_callV0 ((m_Mo_node_1E hs0 hst hM (kk := 2 * kk) (by omega) o lf)) ym_Mo_node qM_Mo_218 qI_Mo_node qV_Mo_Mo_node zc_Mo hM.mo d_Mo_node_59 rfl (Nat.le_of_ble_eq_true rfl) ⟨Nat.zero_le _, Nat.zero_le _⟩ ⟨Nat.le_of_ble_eq_true rfl, Nat.le_of_ble_eq_true rfl⟩ ?_
  refine z_imul d_Mo_node_62 ?_
  refine z_bipush (v := 17) d_Mo_node_63 (by decide) ?_
  refine z_aload_n 0 d_Mo_node_65 rfl rfl ?_
  refine z_iload_n 1 d_Mo_node_66 rfl rfl ?_
  refine z_iconst (v := 1) d_Mo_node_67 (by decide) ?_
  refine z_isub d_Mo_node_68 ?_
  refine z_topv (v := nI 1) (by decide) ?_
  refine z_iconst (v := (nI 2)) d_Mo_node_69 (by decide) ?_
  refine z_iload_n 2 d_Mo_node_70 rfl rfl ?_
  refine z_imul d_Mo_node_71 ?_
  refine z_topv (v := nI (2 * kk)) (pk_mul 2 kk) ?_
  refine z_iconst (v := 1) d_Mo_node_72 (by decide) ?_
  refine z_iadd d_Mo_node_73 ?_
  refine z_topv (v := nI (2 * kk + 1)) (nI_1 _) ?_
  refine z_iload_n 3 d_Mo_node_74 rfl rfl ?_
  refine z_iload 4 d_Mo_node_75 rfl ?_
  refine z_callV0 ((m_Mo_node_1E hs0 hst hM (kk := 2 * kk + 1) (by omega) o lf)) ym_Mo_node qM_Mo_218 qI_Mo_node qV_Mo_Mo_node zc_Mo hM.mo d_Mo_node_77 rfl (Nat.le_of_ble_eq_true rfl) ⟨Nat.zero_le _, Nat.zero_le _⟩ ⟨Nat.le_of_ble_eq_true rfl, Nat.le_of_ble_eq_true rfl⟩ ?_
  refine z_imul d_Mo_node_80 ?_
  refine z_iadd d_Mo_node_81 ?_
  refine z_iconst (v := 5) d_Mo_node_82 (by decide) ?_
  refine z_iadd d_Mo_node_83 ?_
  refine z_sipush (v := 9973) d_Mo_node_84 (by decide) ?_
  refine z_irem d_Mo_node_87 (by decide) ?_
  exact z_iret rfl (⟨rfl, rfl⟩) (by first | decide | omega) (by first | decide | omega) d_Mo_node_88
set_option maxHeartbeats 4000000 in
set_option maxRecDepth 100000 in
theorem m_Mo_node_3E {g0 : State} {d : zD} {l : Launch} {a0 : Array Value} (hs0 : zS0 d a0 g0) (hst : l.stackTraces = false) {G : zG} {B : Nat → Nat} {V : Nat → Nat → Int32} {nk ns ne ec : Nat} (hM : zM d B V nk ns ne ec G) {kk : Nat} (hkk : kk < 131072) (o lf : Int32) : zMet g0 d l y_Mo_node c_Mo_node 5 ((Option.some Jvm.ClassFile.FieldType.int)) 15 0 0 [.ref (B 0), .int (nI 3), .int (nI kk), .int o, .int lf] (G) (zEq (some (.int (znode V ne o lf 3 kk))) G) (zNo) := by
  have hnk : nk ≤ 8 := hM.2.1
  have hns : ns ≤ 6 := hM.2.2.1
  have hne : ne ≤ 64 := hM.2.2.2.1
  have hp2 : 2 ^ nk ≤ 256 := Nat.pow_le_pow_right (n := 2) (by decide) hnk
  refine z_entry hs0 hst (by decide) (Nat.le_of_ble_eq_true rfl) (fun p e s m args below meth c => ?_)
  refine z_iload_n 1 d_Mo_node_0 rfl rfl ?_
  refine z_if_ne 47 d_Mo_node_1 (by decide) (fun c_1 => ?_) (fun c_1 => absurd c_1 (by decide))
  refine z_bipush (v := 31) d_Mo_node_47 (by decide) ?_
  refine z_aload_n 0 d_Mo_node_49 rfl rfl ?_
  refine z_iload_n 1 d_Mo_node_50 rfl rfl ?_
  refine z_iconst (v := 1) d_Mo_node_51 (by decide) ?_
  refine z_isub d_Mo_node_52 ?_
  refine z_topv (v := nI 2) (by decide) ?_
  refine z_iconst (v := (nI 2)) d_Mo_node_53 (by decide) ?_
  refine z_iload_n 2 d_Mo_node_54 rfl rfl ?_
  refine z_imul d_Mo_node_55 ?_
  refine z_topv (v := nI (2 * kk)) (pk_mul 2 kk) ?_
  refine z_iload_n 3 d_Mo_node_56 rfl rfl ?_
  refine z_iload 4 d_Mo_node_57 rfl ?_
  refine z_callV0 ((m_Mo_node_2E hs0 hst hM (kk := 2 * kk) (by omega) o lf)) ym_Mo_node qM_Mo_218 qI_Mo_node qV_Mo_Mo_node zc_Mo hM.mo d_Mo_node_59 rfl (Nat.le_of_ble_eq_true rfl) ⟨Nat.zero_le _, Nat.zero_le _⟩ ⟨Nat.le_of_ble_eq_true rfl, Nat.le_of_ble_eq_true rfl⟩ ?_
  refine z_imul d_Mo_node_62 ?_
  refine z_bipush (v := 17) d_Mo_node_63 (by decide) ?_
  refine z_aload_n 0 d_Mo_node_65 rfl rfl ?_
  refine z_iload_n 1 d_Mo_node_66 rfl rfl ?_
  refine z_iconst (v := 1) d_Mo_node_67 (by decide) ?_
  refine z_isub d_Mo_node_68 ?_
  refine z_topv (v := nI 2) (by decide) ?_
  refine z_iconst (v := (nI 2)) d_Mo_node_69 (by decide) ?_
  refine z_iload_n 2 d_Mo_node_70 rfl rfl ?_
  refine z_imul d_Mo_node_71 ?_
  refine z_topv (v := nI (2 * kk)) (pk_mul 2 kk) ?_
  refine z_iconst (v := 1) d_Mo_node_72 (by decide) ?_
  refine z_iadd d_Mo_node_73 ?_
  refine z_topv (v := nI (2 * kk + 1)) (nI_1 _) ?_
  refine z_iload_n 3 d_Mo_node_74 rfl rfl ?_
  refine z_iload 4 d_Mo_node_75 rfl ?_
  refine z_callV0 ((m_Mo_node_2E hs0 hst hM (kk := 2 * kk + 1) (by omega) o lf)) ym_Mo_node qM_Mo_218 qI_Mo_node qV_Mo_Mo_node zc_Mo hM.mo d_Mo_node_77 rfl (Nat.le_of_ble_eq_true rfl) ⟨Nat.zero_le _, Nat.zero_le _⟩ ⟨Nat.le_of_ble_eq_true rfl, Nat.le_of_ble_eq_true rfl⟩ ?_
  refine z_imul d_Mo_node_80 ?_
  refine z_iadd d_Mo_node_81 ?_
  refine z_iconst (v := 5) d_Mo_node_82 (by decide) ?_
  refine z_iadd d_Mo_node_83 ?_
  refine z_sipush (v := 9973) d_Mo_node_84 (by decide) ?_
  refine z_irem d_Mo_node_87 (by decide) ?_
  exact z_iret rfl (⟨rfl, rfl⟩) (by first | decide | omega) (by first | decide | omega) d_Mo_node_88
set_option maxHeartbeats 4000000 in
set_option maxRecDepth 100000 in
theorem m_Mo_node_4E {g0 : State} {d : zD} {l : Launch} {a0 : Array Value} (hs0 : zS0 d a0 g0) (hst : l.stackTraces = false) {G : zG} {B : Nat → Nat} {V : Nat → Nat → Int32} {nk ns ne ec : Nat} (hM : zM d B V nk ns ne ec G) {kk : Nat} (hkk : kk < 65536) (o lf : Int32) : zMet g0 d l y_Mo_node c_Mo_node 5 ((Option.some Jvm.ClassFile.FieldType.int)) 16 0 0 [.ref (B 0), .int (nI 4), .int (nI kk), .int o, .int lf] (G) (zEq (some (.int (znode V ne o lf 4 kk))) G) (zNo) := by
  have hnk : nk ≤ 8 := hM.2.1
  have hns : ns ≤ 6 := hM.2.2.1
  have hne : ne ≤ 64 := hM.2.2.2.1
  have hp2 : 2 ^ nk ≤ 256 := Nat.pow_le_pow_right (n := 2) (by decide) hnk
  refine z_entry hs0 hst (by decide) (Nat.le_of_ble_eq_true rfl) (fun p e s m args below meth c => ?_)
  refine z_iload_n 1 d_Mo_node_0 rfl rfl ?_
  refine z_if_ne 47 d_Mo_node_1 (by decide) (fun c_1 => ?_) (fun c_1 => absurd c_1 (by decide))
  refine z_bipush (v := 31) d_Mo_node_47 (by decide) ?_
  refine z_aload_n 0 d_Mo_node_49 rfl rfl ?_
  refine z_iload_n 1 d_Mo_node_50 rfl rfl ?_
  refine z_iconst (v := 1) d_Mo_node_51 (by decide) ?_
  refine z_isub d_Mo_node_52 ?_
  refine z_topv (v := nI 3) (by decide) ?_
  refine z_iconst (v := (nI 2)) d_Mo_node_53 (by decide) ?_
  refine z_iload_n 2 d_Mo_node_54 rfl rfl ?_
  refine z_imul d_Mo_node_55 ?_
  refine z_topv (v := nI (2 * kk)) (pk_mul 2 kk) ?_
  refine z_iload_n 3 d_Mo_node_56 rfl rfl ?_
  refine z_iload 4 d_Mo_node_57 rfl ?_
  refine z_callV0 ((m_Mo_node_3E hs0 hst hM (kk := 2 * kk) (by omega) o lf)) ym_Mo_node qM_Mo_218 qI_Mo_node qV_Mo_Mo_node zc_Mo hM.mo d_Mo_node_59 rfl (Nat.le_of_ble_eq_true rfl) ⟨Nat.zero_le _, Nat.zero_le _⟩ ⟨Nat.le_of_ble_eq_true rfl, Nat.le_of_ble_eq_true rfl⟩ ?_
  refine z_imul d_Mo_node_62 ?_
  refine z_bipush (v := 17) d_Mo_node_63 (by decide) ?_
  refine z_aload_n 0 d_Mo_node_65 rfl rfl ?_
  refine z_iload_n 1 d_Mo_node_66 rfl rfl ?_
  refine z_iconst (v := 1) d_Mo_node_67 (by decide) ?_
  refine z_isub d_Mo_node_68 ?_
  refine z_topv (v := nI 3) (by decide) ?_
  refine z_iconst (v := (nI 2)) d_Mo_node_69 (by decide) ?_
  refine z_iload_n 2 d_Mo_node_70 rfl rfl ?_
  refine z_imul d_Mo_node_71 ?_
  refine z_topv (v := nI (2 * kk)) (pk_mul 2 kk) ?_
  refine z_iconst (v := 1) d_Mo_node_72 (by decide) ?_
  refine z_iadd d_Mo_node_73 ?_
  refine z_topv (v := nI (2 * kk + 1)) (nI_1 _) ?_
  refine z_iload_n 3 d_Mo_node_74 rfl rfl ?_
  refine z_iload 4 d_Mo_node_75 rfl ?_
  refine z_callV0 ((m_Mo_node_3E hs0 hst hM (kk := 2 * kk + 1) (by omega) o lf)) ym_Mo_node qM_Mo_218 qI_Mo_node qV_Mo_Mo_node zc_Mo hM.mo d_Mo_node_77 rfl (Nat.le_of_ble_eq_true rfl) ⟨Nat.zero_le _, Nat.zero_le _⟩ ⟨Nat.le_of_ble_eq_true rfl, Nat.le_of_ble_eq_true rfl⟩ ?_
  refine z_imul d_Mo_node_80 ?_
  refine z_iadd d_Mo_node_81 ?_
  refine z_iconst (v := 5) d_Mo_node_82 (by decide) ?_
  refine z_iadd d_Mo_node_83 ?_
  refine z_sipush (v := 9973) d_Mo_node_84 (by decide) ?_
  refine z_irem d_Mo_node_87 (by decide) ?_
  exact z_iret rfl (⟨rfl, rfl⟩) (by first | decide | omega) (by first | decide | omega) d_Mo_node_88
set_option maxHeartbeats 4000000 in
set_option maxRecDepth 100000 in
theorem m_Mo_node_5E {g0 : State} {d : zD} {l : Launch} {a0 : Array Value} (hs0 : zS0 d a0 g0) (hst : l.stackTraces = false) {G : zG} {B : Nat → Nat} {V : Nat → Nat → Int32} {nk ns ne ec : Nat} (hM : zM d B V nk ns ne ec G) {kk : Nat} (hkk : kk < 32768) (o lf : Int32) : zMet g0 d l y_Mo_node c_Mo_node 5 ((Option.some Jvm.ClassFile.FieldType.int)) 17 0 0 [.ref (B 0), .int (nI 5), .int (nI kk), .int o, .int lf] (G) (zEq (some (.int (znode V ne o lf 5 kk))) G) (zNo) := by
  have hnk : nk ≤ 8 := hM.2.1
  have hns : ns ≤ 6 := hM.2.2.1
  have hne : ne ≤ 64 := hM.2.2.2.1
  have hp2 : 2 ^ nk ≤ 256 := Nat.pow_le_pow_right (n := 2) (by decide) hnk
  refine z_entry hs0 hst (by decide) (Nat.le_of_ble_eq_true rfl) (fun p e s m args below meth c => ?_)
  refine z_iload_n 1 d_Mo_node_0 rfl rfl ?_
  refine z_if_ne 47 d_Mo_node_1 (by decide) (fun c_1 => ?_) (fun c_1 => absurd c_1 (by decide))
  refine z_bipush (v := 31) d_Mo_node_47 (by decide) ?_
  refine z_aload_n 0 d_Mo_node_49 rfl rfl ?_
  refine z_iload_n 1 d_Mo_node_50 rfl rfl ?_
  refine z_iconst (v := 1) d_Mo_node_51 (by decide) ?_
  refine z_isub d_Mo_node_52 ?_
  refine z_topv (v := nI 4) (by decide) ?_
  refine z_iconst (v := (nI 2)) d_Mo_node_53 (by decide) ?_
  refine z_iload_n 2 d_Mo_node_54 rfl rfl ?_
  refine z_imul d_Mo_node_55 ?_
  refine z_topv (v := nI (2 * kk)) (pk_mul 2 kk) ?_
  refine z_iload_n 3 d_Mo_node_56 rfl rfl ?_
  refine z_iload 4 d_Mo_node_57 rfl ?_
  refine z_callV0 ((m_Mo_node_4E hs0 hst hM (kk := 2 * kk) (by omega) o lf)) ym_Mo_node qM_Mo_218 qI_Mo_node qV_Mo_Mo_node zc_Mo hM.mo d_Mo_node_59 rfl (Nat.le_of_ble_eq_true rfl) ⟨Nat.zero_le _, Nat.zero_le _⟩ ⟨Nat.le_of_ble_eq_true rfl, Nat.le_of_ble_eq_true rfl⟩ ?_
  refine z_imul d_Mo_node_62 ?_
  refine z_bipush (v := 17) d_Mo_node_63 (by decide) ?_
  refine z_aload_n 0 d_Mo_node_65 rfl rfl ?_
  refine z_iload_n 1 d_Mo_node_66 rfl rfl ?_
  refine z_iconst (v := 1) d_Mo_node_67 (by decide) ?_
  refine z_isub d_Mo_node_68 ?_
  refine z_topv (v := nI 4) (by decide) ?_
  refine z_iconst (v := (nI 2)) d_Mo_node_69 (by decide) ?_
  refine z_iload_n 2 d_Mo_node_70 rfl rfl ?_
  refine z_imul d_Mo_node_71 ?_
  refine z_topv (v := nI (2 * kk)) (pk_mul 2 kk) ?_
  refine z_iconst (v := 1) d_Mo_node_72 (by decide) ?_
  refine z_iadd d_Mo_node_73 ?_
  refine z_topv (v := nI (2 * kk + 1)) (nI_1 _) ?_
  refine z_iload_n 3 d_Mo_node_74 rfl rfl ?_
  refine z_iload 4 d_Mo_node_75 rfl ?_
  refine z_callV0 ((m_Mo_node_4E hs0 hst hM (kk := 2 * kk + 1) (by omega) o lf)) ym_Mo_node qM_Mo_218 qI_Mo_node qV_Mo_Mo_node zc_Mo hM.mo d_Mo_node_77 rfl (Nat.le_of_ble_eq_true rfl) ⟨Nat.zero_le _, Nat.zero_le _⟩ ⟨Nat.le_of_ble_eq_true rfl, Nat.le_of_ble_eq_true rfl⟩ ?_
  refine z_imul d_Mo_node_80 ?_
  refine z_iadd d_Mo_node_81 ?_
  refine z_iconst (v := 5) d_Mo_node_82 (by decide) ?_
  refine z_iadd d_Mo_node_83 ?_
  refine z_sipush (v := 9973) d_Mo_node_84 (by decide) ?_
  refine z_irem d_Mo_node_87 (by decide) ?_
  exact z_iret rfl (⟨rfl, rfl⟩) (by first | decide | omega) (by first | decide | omega) d_Mo_node_88
set_option maxHeartbeats 4000000 in
set_option maxRecDepth 100000 in
theorem m_Mo_node_6E {g0 : State} {d : zD} {l : Launch} {a0 : Array Value} (hs0 : zS0 d a0 g0) (hst : l.stackTraces = false) {G : zG} {B : Nat → Nat} {V : Nat → Nat → Int32} {nk ns ne ec : Nat} (hM : zM d B V nk ns ne ec G) {kk : Nat} (hkk : kk < 16384) (o lf : Int32) : zMet g0 d l y_Mo_node c_Mo_node 5 ((Option.some Jvm.ClassFile.FieldType.int)) 18 0 0 [.ref (B 0), .int (nI 6), .int (nI kk), .int o, .int lf] (G) (zEq (some (.int (znode V ne o lf 6 kk))) G) (zNo) := by
  have hnk : nk ≤ 8 := hM.2.1
  have hns : ns ≤ 6 := hM.2.2.1
  have hne : ne ≤ 64 := hM.2.2.2.1
  have hp2 : 2 ^ nk ≤ 256 := Nat.pow_le_pow_right (n := 2) (by decide) hnk
  refine z_entry hs0 hst (by decide) (Nat.le_of_ble_eq_true rfl) (fun p e s m args below meth c => ?_)
  refine z_iload_n 1 d_Mo_node_0 rfl rfl ?_
  refine z_if_ne 47 d_Mo_node_1 (by decide) (fun c_1 => ?_) (fun c_1 => absurd c_1 (by decide))
  refine z_bipush (v := 31) d_Mo_node_47 (by decide) ?_
  refine z_aload_n 0 d_Mo_node_49 rfl rfl ?_
  refine z_iload_n 1 d_Mo_node_50 rfl rfl ?_
  refine z_iconst (v := 1) d_Mo_node_51 (by decide) ?_
  refine z_isub d_Mo_node_52 ?_
  refine z_topv (v := nI 5) (by decide) ?_
  refine z_iconst (v := (nI 2)) d_Mo_node_53 (by decide) ?_
  refine z_iload_n 2 d_Mo_node_54 rfl rfl ?_
  refine z_imul d_Mo_node_55 ?_
  refine z_topv (v := nI (2 * kk)) (pk_mul 2 kk) ?_
  refine z_iload_n 3 d_Mo_node_56 rfl rfl ?_
  refine z_iload 4 d_Mo_node_57 rfl ?_
  refine z_callV0 ((m_Mo_node_5E hs0 hst hM (kk := 2 * kk) (by omega) o lf)) ym_Mo_node qM_Mo_218 qI_Mo_node qV_Mo_Mo_node zc_Mo hM.mo d_Mo_node_59 rfl (Nat.le_of_ble_eq_true rfl) ⟨Nat.zero_le _, Nat.zero_le _⟩ ⟨Nat.le_of_ble_eq_true rfl, Nat.le_of_ble_eq_true rfl⟩ ?_
  refine z_imul d_Mo_node_62 ?_
  refine z_bipush (v := 17) d_Mo_node_63 (by decide) ?_
  refine z_aload_n 0 d_Mo_node_65 rfl rfl ?_
  refine z_iload_n 1 d_Mo_node_66 rfl rfl ?_
  refine z_iconst (v := 1) d_Mo_node_67 (by decide) ?_
  refine z_isub d_Mo_node_68 ?_
  refine z_topv (v := nI 5) (by decide) ?_
  refine z_iconst (v := (nI 2)) d_Mo_node_69 (by decide) ?_
  refine z_iload_n 2 d_Mo_node_70 rfl rfl ?_
  refine z_imul d_Mo_node_71 ?_
  refine z_topv (v := nI (2 * kk)) (pk_mul 2 kk) ?_
  refine z_iconst (v := 1) d_Mo_node_72 (by decide) ?_
  refine z_iadd d_Mo_node_73 ?_
  refine z_topv (v := nI (2 * kk + 1)) (nI_1 _) ?_
  refine z_iload_n 3 d_Mo_node_74 rfl rfl ?_
  refine z_iload 4 d_Mo_node_75 rfl ?_
  refine z_callV0 ((m_Mo_node_5E hs0 hst hM (kk := 2 * kk + 1) (by omega) o lf)) ym_Mo_node qM_Mo_218 qI_Mo_node qV_Mo_Mo_node zc_Mo hM.mo d_Mo_node_77 rfl (Nat.le_of_ble_eq_true rfl) ⟨Nat.zero_le _, Nat.zero_le _⟩ ⟨Nat.le_of_ble_eq_true rfl, Nat.le_of_ble_eq_true rfl⟩ ?_
  refine z_imul d_Mo_node_80 ?_
  refine z_iadd d_Mo_node_81 ?_
  refine z_iconst (v := 5) d_Mo_node_82 (by decide) ?_
  refine z_iadd d_Mo_node_83 ?_
  refine z_sipush (v := 9973) d_Mo_node_84 (by decide) ?_
  refine z_irem d_Mo_node_87 (by decide) ?_
  exact z_iret rfl (⟨rfl, rfl⟩) (by first | decide | omega) (by first | decide | omega) d_Mo_node_88
set_option maxHeartbeats 4000000 in
set_option maxRecDepth 100000 in
theorem m_Mo_rootE {g0 : State} {d : zD} {l : Launch} {a0 : Array Value} (hs0 : zS0 d a0 g0) (hst : l.stackTraces = false) {G : zG} {B : Nat → Nat} {V : Nat → Nat → Int32} {nk ns ne ec : Nat} (hM : zM d B V nk ns ne ec G) : zMet g0 d l y_Mo_root c_Mo_root 1 ((Option.some Jvm.ClassFile.FieldType.int)) 20 0 0 [.ref (B 0)] (G) (zEq (some (.int (znode V ne (-1) 0 6 0))) G) (zNo) := by
  have hnk : nk ≤ 8 := hM.2.1
  have hns : ns ≤ 6 := hM.2.2.1
  have hne : ne ≤ 64 := hM.2.2.2.1
  have hp2 : 2 ^ nk ≤ 256 := Nat.pow_le_pow_right (n := 2) (by decide) hnk
  refine z_entry hs0 hst (by decide) (Nat.le_of_ble_eq_true rfl) (fun p e s m args below meth c => ?_)
  refine z_aload_n 0 d_Mo_root_0 rfl rfl ?_
  refine z_bipush (v := (nI 6)) d_Mo_root_1 (by decide) ?_
  refine z_iconst (v := (nI 0)) d_Mo_root_3 (by decide) ?_
  refine z_iconst (v := (-1)) d_Mo_root_4 (by decide) ?_
  refine z_iconst (v := 0) d_Mo_root_5 (by decide) ?_
  refine z_callV0 ((m_Mo_node_6E hs0 hst hM (kk := 0) (by decide) (-1) 0)) ym_Mo_node qM_Mo_218 qI_Mo_node qV_Mo_Mo_node zc_Mo hM.mo d_Mo_root_6 rfl (Nat.le_of_ble_eq_true rfl) ⟨Nat.zero_le _, Nat.zero_le _⟩ ⟨Nat.le_of_ble_eq_true rfl, Nat.le_of_ble_eq_true rfl⟩ ?_
  exact z_iret rfl (⟨rfl, rfl⟩) (by first | decide | omega) (by first | decide | omega) d_Mo_root_9
set_option maxHeartbeats 4000000 in
set_option maxRecDepth 100000 in
theorem m_Mo_provesE {g0 : State} {d : zD} {l : Launch} {a0 : Array Value} (hs0 : zS0 d a0 g0) (hst : l.stackTraces = false) {G : zG} {B : Nat → Nat} {V : Nat → Nat → Int32} {nk ns ne ec : Nat} (hM : zM d B V nk ns ne ec G) (x w : Int32) : zMet g0 d l y_Mo_proves c_Mo_proves 3 ((Option.some Jvm.ClassFile.FieldType.boolean)) 22 0 0 [.ref (B 0), .int x, .int w] (G) (mAq d B nk ns ne ec V G (rPv ne x w)) (zNo) := by
  have hnk : nk ≤ 8 := hM.2.1
  have hns : ns ≤ 6 := hM.2.2.1
  have hne : ne ≤ 64 := hM.2.2.2.1
  have hp2 : 2 ^ nk ≤ 256 := Nat.pow_le_pow_right (n := 2) (by decide) hnk
  refine z_entry hs0 hst (by decide) (Nat.le_of_ble_eq_true rfl) (fun p e s m args below meth c => ?_)
  refine z_aload_n 0 d_Mo_proves_0 rfl rfl ?_
  refine z_iconst (v := 0) d_Mo_proves_1 (by decide) ?_
  refine z_put zc_Mo 0 (by decide) qF_Mo_36 hM.mo rfl rfl rfl (Nat.le_of_ble_eq_true rfl) d_Mo_proves_2 ?_
  obtain ⟨V1, hM1, hK1, hF1, hT1⟩ := hM.putT 0
  refine z_aload_n 0 d_Mo_proves_5 rfl rfl ?_
  refine z_iload_n 1 d_Mo_proves_6 rfl rfl ?_
  refine z_callV0 (m_Mo_isEntry hs0 hst hM1 x) ym_Mo_isEntry qM_Mo_228 qI_Mo_isEntry qV_Mo_Mo_isEntry zc_Mo hM1.mo d_Mo_proves_7 rfl (Nat.le_of_ble_eq_true rfl) ⟨Nat.zero_le _, Nat.zero_le _⟩ ⟨Nat.le_of_ble_eq_true rfl, Nat.le_of_ble_eq_true rfl⟩ ?_
  refine z_if_ne 27 d_Mo_proves_10 (by decide) (fun c_10 => ?_) (fun c_10 => ?_)
  · skip
    obtain ⟨ei, hei, rfl⟩ := zin_n ((zb_n0 _).mp c_10) (by omega)
    refine z_iload_n 2 d_Mo_proves_27 rfl rfl ?_
    refine z_iconst (v := 0) d_Mo_proves_28 (by decide) ?_
    refine z_sipush (v := 9972) d_Mo_proves_29 (by decide) ?_
    refine z_callS0 (m_Mo_in hs0 hst w 0 _) ym_Mo_in qM_Mo_115 qS_Mo_in d_Mo_proves_32 rfl (Nat.le_of_ble_eq_true rfl) ⟨Nat.zero_le _, Nat.zero_le _⟩ ⟨Nat.le_of_ble_eq_true rfl, Nat.le_of_ble_eq_true rfl⟩ ?_
    refine z_if_ne 52 d_Mo_proves_35 (by decide) (fun c_35 => ?_) (fun c_35 => ?_)
    · skip
      refine z_aload_n 0 d_Mo_proves_52 rfl rfl ?_
      refine z_bipush (v := (nI 6)) d_Mo_proves_53 (by decide) ?_
      refine z_iconst (v := (nI 0)) d_Mo_proves_55 (by decide) ?_
      refine z_iload_n 1 d_Mo_proves_56 rfl rfl ?_
      refine z_iload_n 2 d_Mo_proves_57 rfl rfl ?_
      refine z_callV0 ((m_Mo_node_6E hs0 hst hM1 (kk := 0) (by decide) _ _)) ym_Mo_node qM_Mo_218 qI_Mo_node qV_Mo_Mo_node zc_Mo hM1.mo d_Mo_proves_58 rfl (Nat.le_of_ble_eq_true rfl) ⟨Nat.zero_le _, Nat.zero_le _⟩ ⟨Nat.le_of_ble_eq_true rfl, Nat.le_of_ble_eq_true rfl⟩ ?_
      refine z_aload_n 0 d_Mo_proves_61 rfl rfl ?_
      refine z_callV0 ((m_Mo_rootE hs0 hst hM1)) ym_Mo_root qM_Mo_222 qI_Mo_root qV_Mo_Mo_root zc_Mo hM1.mo d_Mo_proves_62 rfl (Nat.le_of_ble_eq_true rfl) ⟨Nat.zero_le _, Nat.zero_le _⟩ ⟨Nat.le_of_ble_eq_true rfl, Nat.le_of_ble_eq_true rfl⟩ ?_
      refine z_icmp_ne 72 d_Mo_proves_65 (by decide) (fun c_65 => ?_) (fun c_65 => ?_)
      · skip
        refine z_iconst (v := 0) d_Mo_proves_72 (by decide) ?_
        exact z_zret rfl (by first | rfl | exact zb_nar _) (by first | exact ⟨_, V1, rfl, Or.inr ⟨ei, hei, rfl, Or.inr ⟨(zb_n0 _).mp c_35, hT1, show (1 : Int32) = zb (decide _) from (congrArg zb (decide_eq_true c_65)).symm⟩⟩, hM1, hK1, hF1⟩ | exact ⟨_, V1, rfl, Or.inr ⟨ei, hei, rfl, Or.inr ⟨(zb_n0 _).mp c_35, hT1, show (0 : Int32) = zb (decide _) from (congrArg zb (decide_eq_false c_65)).symm⟩⟩, hM1, hK1, hF1⟩) (by first | decide | omega) (by first | decide | omega) d_Mo_proves_73
      · skip
        refine z_iconst (v := 1) d_Mo_proves_68 (by decide) ?_
        refine z_goto 73 d_Mo_proves_69 (by decide) ?_
        exact z_zret rfl (by first | rfl | exact zb_nar _) (by first | exact ⟨_, V1, rfl, Or.inr ⟨ei, hei, rfl, Or.inr ⟨(zb_n0 _).mp c_35, hT1, show (1 : Int32) = zb (decide _) from (congrArg zb (decide_eq_true c_65)).symm⟩⟩, hM1, hK1, hF1⟩ | exact ⟨_, V1, rfl, Or.inr ⟨ei, hei, rfl, Or.inr ⟨(zb_n0 _).mp c_35, hT1, show (0 : Int32) = zb (decide _) from (congrArg zb (decide_eq_false c_65)).symm⟩⟩, hM1, hK1, hF1⟩) (by first | decide | omega) (by first | decide | omega) d_Mo_proves_73
    · skip
      refine z_aload_n 0 d_Mo_proves_38 rfl rfl ?_
      refine z_iconst (v := 2) d_Mo_proves_39 (by decide) ?_
      refine z_callV0 (m_Mo_no hs0 hst hM1.mo 2) ym_Mo_no qM_Mo_119 qI_Mo_no qV_Mo_Mo_no zc_Mo hM1.mo d_Mo_proves_40 rfl (Nat.le_of_ble_eq_true rfl) ⟨Nat.zero_le _, Nat.zero_le _⟩ ⟨Nat.le_of_ble_eq_true rfl, Nat.le_of_ble_eq_true rfl⟩ ?_
      obtain ⟨V9, hM9, hK9, hF9, hT9⟩ := hM1.putT 2
      refine z_if_le 50 d_Mo_proves_43 (by decide) (fun c_43 => ?_) (fun c_43 => absurd (by decide) c_43)
      refine z_iconst (v := 0) d_Mo_proves_50 (by decide) ?_
      exact z_zret rfl (by first | rfl | exact zb_nar _) (⟨0, V9, rfl, Or.inr ⟨ei, hei, rfl, Or.inl ⟨(zb_0 _).mp c_35, hT9⟩⟩, hM9, hK1.tr hK9, hF1.tr hF9⟩) (by first | decide | omega) (by first | decide | omega) d_Mo_proves_51
  · skip
    refine z_aload_n 0 d_Mo_proves_13 rfl rfl ?_
    refine z_iconst (v := 1) d_Mo_proves_14 (by decide) ?_
    refine z_callV0 (m_Mo_no hs0 hst hM1.mo 1) ym_Mo_no qM_Mo_119 qI_Mo_no qV_Mo_Mo_no zc_Mo hM1.mo d_Mo_proves_15 rfl (Nat.le_of_ble_eq_true rfl) ⟨Nat.zero_le _, Nat.zero_le _⟩ ⟨Nat.le_of_ble_eq_true rfl, Nat.le_of_ble_eq_true rfl⟩ ?_
    obtain ⟨V9, hM9, hK9, hF9, hT9⟩ := hM1.putT 1
    refine z_if_le 25 d_Mo_proves_18 (by decide) (fun c_18 => ?_) (fun c_18 => absurd (by decide) c_18)
    refine z_iconst (v := 0) d_Mo_proves_25 (by decide) ?_
    exact z_zret rfl (by first | rfl | exact zb_nar _) (⟨0, V9, rfl, Or.inl ⟨(zb_0 _).mp c_10, hT9⟩, hM9, hK1.tr hK9, hF1.tr hF9⟩) (by first | decide | omega) (by first | decide | omega) d_Mo_proves_26
