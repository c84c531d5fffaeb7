
/-- a number of the tree's row r, as the reference reckons it; one leaf may be told otherwise -/
def znode (W : Nat → Nat → Int32) (ne : Nat) (o lf : Int32) : Nat → Nat → Int32
  | 0, k => if nI k = o then lf else if k < ne then W (500 + k) 3 else 0
  | r + 1, k => zr9 (31 * znode W ne o lf r (2 * k) + 17 * znode W ne o lf r (2 * k + 1) + 5)

/-- the number beside -/
def zsib (e r : Nat) : Nat := if e / 2 ^ r % 2 = 0 then e / 2 ^ r + 1 else e / 2 ^ r - 1

def rPr (ne : Nat) (x w t b : Int32) (W : Nat → Nat → Int32) : Prop := ((zin x 0 (nI ne - 1) = false ∨ zin w 0 5 = false) ∧ t = 1) ∨ (∃ e, e < ne ∧ x = nI e ∧ ∃ q, q < 6 ∧ w = nI q ∧ t = 0 ∧ b = znode W ne (-1) 0 q (zsib e q))

set_option maxHeartbeats 4000000 in
set_option maxRecDepth 100000 in
theorem m_Mo_node_0E {g0 : State} {d : zD} {l : Launch} {a0 : Array Value} (hs0 : zS0 d a0 g0) (hst : l.stackTraces = false) {G : zG} {B : Nat → Nat} {V : Nat → Nat → Int32} {nk ns ne ec : Nat} (hM : zM d B V nk ns ne ec G) {kk : Nat} (hkk : kk < 1048576) (o lf : Int32) : zMet g0 d l y_Mo_node c_Mo_node 5 ((Option.some Jvm.ClassFile.FieldType.int)) 12 0 0 [.ref (B 0), .int (nI 0), .int (nI kk), .int o, .int lf] (G) (zEq (some (.int (znode V ne o lf 0 kk))) G) (zNo) := by
  have hnk : nk ≤ 8 := hM.2.1
  have hns : ns ≤ 6 := hM.2.2.1
  have hne : ne ≤ 64 := hM.2.2.2.1
  have hp2 : 2 ^ nk ≤ 256 := Nat.pow_le_pow_right (n := 2) (by decide) hnk
  refine z_entry hs0 hst (by decide) (Nat.le_of_ble_eq_true rfl) (fun p e s m args below meth c => ?_)
  refine z_iload_n 1 d_Mo_node_0 rfl rfl ?_
  refine z_if_ne 47 d_Mo_node_1 (by decide) (fun c_1 => absurd nI_0 c_1) (fun c_1 => ?_)
  refine z_iload_n 2 d_Mo_node_4 rfl rfl ?_
  refine z_iload_n 3 d_Mo_node_5 rfl rfl ?_
  refine z_icmp_ne 14 d_Mo_node_6 (by decide) (fun c_6 => ?_) (fun c_6 => ?_)
  · skip
    refine z_iload_n 2 d_Mo_node_14 rfl rfl ?_
    refine z_aload_n 0 d_Mo_node_15 rfl rfl ?_
    refine z_get zc_Mo 8 (by decide) qF_Mo_23 hM.mo rfl d_Mo_node_16 ?_
    refine z_callF0 (m_AL_size hs0 hst hM.el) ym_AL_size zF_AL_size qM_Mo_94 zc_AL hM.el d_Mo_node_19 rfl (Nat.le_of_ble_eq_true rfl) ⟨Nat.zero_le _, Nat.zero_le _⟩ ⟨Nat.le_of_ble_eq_true rfl, Nat.le_of_ble_eq_true rfl⟩ ?_
    refine z_icmp_ge 45 d_Mo_node_24 (by decide) (fun c_24 => ?_) (fun c_24 => ?_)
    · skip
      have hn6 : ¬ kk < ne := Nat.not_lt.mpr ((nI_leI (a := ne) (b := kk) (by omega) (by omega)).mp c_24)
      refine z_iconst (v := 0) d_Mo_node_45 (by decide) ?_
      exact z_iret rfl (⟨by show _ = some (Value.int (if nI kk = o then lf else if kk < ne then V (500 + kk) 3 else 0)); first | rw [if_pos c_6] | rw [if_neg c_6, if_pos he6] | rw [if_neg c_6, if_neg hn6], rfl⟩) (by first | decide | omega) (by first | decide | omega) d_Mo_node_46
    · skip
      have he6 : kk < ne := Nat.lt_of_not_le fun q => c_24 (nI_le q (by omega))
      refine z_aload_n 0 d_Mo_node_27 rfl rfl ?_
      refine z_get zc_Mo 8 (by decide) qF_Mo_23 hM.mo rfl d_Mo_node_28 ?_
      refine z_iload_n 2 d_Mo_node_31 rfl rfl ?_
      refine z_callF0 (m_AL_get hs0 hst (hM.eA he6) he6 (if_pos he6)) ym_AL_get zF_AL_get qM_Mo_51 zc_AL (hM.eA he6).1 d_Mo_node_32 rfl (Nat.le_of_ble_eq_true rfl) ⟨Nat.zero_le _, Nat.zero_le _⟩ ⟨Nat.le_of_ble_eq_true rfl, Nat.le_of_ble_eq_true rfl⟩ ?_
      refine z_castI qK_Mo_217 (hM.en he6) d_Mo_node_37 ?_
      refine z_iconst (v := (nI 3)) d_Mo_node_40 (by decide) ?_
      refine z_ialdN (hM.en he6) (show 3 < 4 by decide) (by decide) d_Mo_node_41 ?_
      refine z_goto 46 d_Mo_node_42 (by decide) ?_
      exact z_iret rfl (⟨by show _ = some (Value.int (if nI kk = o then lf else if kk < ne then V (500 + kk) 3 else 0)); first | rw [if_pos c_6] | rw [if_neg c_6, if_pos he6] | rw [if_neg c_6, if_neg hn6], rfl⟩) (by first | decide | omega) (by first | decide | omega) d_Mo_node_46
  · skip
    refine z_iload 4 d_Mo_node_9 rfl ?_
    refine z_goto 46 d_Mo_node_11 (by decide) ?_
    exact z_iret rfl (⟨by show _ = some (Value.int (if nI kk = o then lf else if kk < ne then V (500 + kk) 3 else 0)); first | rw [if_pos c_6] | rw [if_neg c_6, if_pos he6] | rw [if_neg c_6, if_neg hn6], rfl⟩) (by first | decide | omega) (by first | decide | omega) d_Mo_node_46
set_option maxHeartbeats 4000000 in
set_option maxRecDepth 100000 in
theorem m_Mo_node_1E {g0 : State} {d : zD} {l : Launch} {a0 : Array Value} (hs0 : zS0 d a0 g0) (hst : l.stackTraces = false) {G : zG} {B : Nat → Nat} {V : Nat → Nat → Int32} {nk ns ne ec : Nat} (hM : zM d B V nk ns ne ec G) {kk : Nat} (hkk : kk < 524288) (o lf : Int32) : zMet g0 d l y_Mo_node c_Mo_node 5 ((Option.some Jvm.ClassFile.FieldType.int)) 13 0 0 [.ref (B 0), .int (nI 1), .int (nI kk), .int o, .int lf] (G) (zEq (some (.int (znode V ne o lf 1 kk))) G) (zNo) := by
  have hnk : nk ≤ 8 := hM.2.1
  have hns : ns ≤ 6 := hM.2.2.1
  have hne : ne ≤ 64 := hM.2.2.2.1
  have hp2 : 2 ^ nk ≤ 256 := Nat.pow_le_pow_right (n := 2) (by decide) hnk
  refine z_entry hs0 hst (by decide) (Nat.le_of_ble_eq_true rfl) (fun p e s m args below meth c => ?_)
  refine z_iload_n 1 d_Mo_node_0 rfl rfl ?_
  refine z_if_ne 47 d_Mo_node_1 (by decide) (fun c_1 => ?_) (fun c_1 => absurd c_1 (by decide))
  refine z_bipush (v := 31) d_Mo_node_47 (by decide) ?_
  refine z_aload_n 0 d_Mo_node_49 rfl rfl ?_
  refine z_iload_n 1 d_Mo_node_50 rfl rfl ?_
  refine z_iconst (v := 1) d_Mo_node_51 (by decide) ?_
  refine z_isub d_Mo_node_52 ?_
  refine z_topv (v := nI 0) (by decide) ?_
  refine z_iconst (v := (nI 2)) d_Mo_node_53 (by decide) ?_
  refine z_iload_n 2 d_Mo_node_54 rfl rfl ?_
  refine z_imul d_Mo_node_55 ?_
  refine z_topv (v := nI (2 * kk)) (pk_mul 2 kk) ?_
  refine z_iload_n 3 d_Mo_node_56 rfl rfl ?_
  refine z_iload 4 d_Mo_node_57 rfl ?_
  refine z_callV0 ((m_Mo_node_0E hs0 hst hM (kk := 2 * kk) (by omega) o lf)) ym_Mo_node qM_Mo_218 qI_Mo_node qV_Mo_Mo_node zc_Mo hM.mo d_Mo_node_59 rfl (Nat.le_of_ble_eq_true rfl) ⟨Nat.zero_le _, Nat.zero_le _⟩ ⟨Nat.le_of_ble_eq_true rfl, Nat.le_of_ble_eq_true rfl⟩ ?_
  refine z_imul d_Mo_node_62 ?_
  refine z_bipush (v := 17) d_Mo_node_63 (by decide) ?_
  refine z_aload_n 0 d_Mo_node_65 rfl rfl ?_
  refine z_iload_n 1 d_Mo_node_66 rfl rfl ?_
  refine z_iconst (v := 1) d_Mo_node_67 (by decide) ?_
  refine z_isub d_Mo_node_68 ?_
  refine z_topv (v := nI 0) (by decide) ?_
  refine z_iconst (v := (nI 2)) d_Mo_node_69 (by decide) ?_
  refine z_iload_n 2 d_Mo_node_70 rfl rfl ?_
  refine z_imul d_Mo_node_71 ?_
  refine z_topv (v := nI (2 * kk)) (pk_mul 2 kk) ?_
  refine z_iconst (v := 1) d_Mo_node_72 (by decide) ?_
  refine z_iadd d_Mo_node_73 ?_
  refine z_topv (v := nI (2 * kk + 1)) (nI_1 _) ?_
  refine z_iload_n 3 d_Mo_node_74 rfl rfl ?_
  refine z_iload 4 d_Mo_node_75 rfl ?_
  refine z_callV0 ((m_Mo_node_0E hs0 hst hM (kk := 2 * kk + 1) (by omega) o lf)) ym_Mo_node qM_Mo_218 qI_Mo_node qV_Mo_Mo_node zc_Mo hM.mo d_Mo_node_77 rfl (Nat.le_of_ble_eq_true rfl) ⟨Nat.zero_le _, Nat.zero_le _⟩ ⟨Nat.le_of_ble_eq_true rfl, Nat.le_of_ble_eq_true rfl⟩ ?_
  refine z_imul d_Mo_node_80 ?_
  refine z_iadd d_Mo_node_81 ?_
  refine z_iconst (v := 5) d_Mo_node_82 (by decide) ?_
  refine z_iadd d_Mo_node_83 ?_
  refine z_sipush (v := 9973) d_Mo_node_84 (by decide) ?_
  refine z_irem d_Mo_node_87 (by decide) ?_
  exact z_iret rfl (⟨rfl, rfl⟩) (by first | decide | omega) (by first | decide | omega) d_Mo_node_88
set_option maxHeartbeats 4000000 in
set_option maxRecDepth 100000 in
theorem m_Mo_node_2E {g0 : State} {d : zD} {l : Launch} {a0 : Array Value} (hs0 : zS0 d a0 g0) (hst : l.stackTraces = false) {G : zG} {B : Nat → Nat} {V : Nat → Nat → Int32} {nk ns ne ec : Nat} (hM : zM d B V nk ns ne ec G) {kk : Nat} (hkk : kk < 262144) (o lf : Int32) : zMet g0 d l y_Mo_node c_Mo_node 5 ((Option.some Jvm.ClassFile.FieldType.int)) 14 0 0 [.ref (B 0), .int (nI 2), .int (nI kk), .int o, .int lf] (G) (zEq (some (.int (znode V ne o lf 2 kk))) G) (zNo) := by
  have hnk : nk ≤ 8 := hM.2.1
  have hns : ns ≤ 6 := hM.2.2.1
  have hne : ne ≤ 64 := hM.2.2.2.1
  have hp2 : 2 ^ nk ≤ 256 := Nat.pow_le_pow_right (n := 2) (by decide) hnk
  refine z_entry hs0 hst (by decide) (Nat.le_of_ble_eq_true rfl) (fun p e s m args below meth c => ?_)
  refine z_iload_n 1 d_Mo_node_0 rfl rfl ?_
  refine z_if_ne 47 d_Mo_node_1 (by decide) (fun c_1 => ?_) (fun c_1 => absurd c_1 (by decide))
  refine z_bipush (v := 31) d_Mo_node_47 (by decide) ?_
  refine z_aload_n 0 d_Mo_node_49 rfl rfl ?_
  refine z_iload_n 1 d_Mo_node_50 rfl rfl ?_
  refine z_iconst (v := 1) d_Mo_node_51 (by decide) ?_
  refine z_isub d_Mo_node_52 ?_
  refine z_topv (v := nI 1) (by decide) ?_
  refine z_iconst (v := (nI 2)) d_Mo_node_53 (by decide) ?_
  refine z_iload_n 2 d_Mo_node_54 rfl rfl ?_
  refine z_imul d_Mo_node_55 ?_
  refine z_topv (v := nI (2 * kk)) (pk_mul 2 kk) ?_
  refine z_iload_n 3 d_Mo_node_56 rfl rfl ?_
  refine z_iload 4 d_Mo_node_57 rfl ?_
  refine z_callV0 ((m_Mo_node_1E hs0 hst hM (kk := 2 * kk) (by omega) o lf)) ym_Mo_node qM_Mo_218 qI_Mo_node qV_Mo_Mo_node zc_Mo hM.mo d_Mo_node_59 rfl (Nat.le_of_ble_eq_true rfl) ⟨Nat.zero_le _, Nat.zero_le _⟩ ⟨Nat.le_of_ble_eq_true rfl, Nat.le_of_ble_eq_true rfl⟩ ?_
  refine z_imul d_Mo_node_62 ?_
  refine z_bipush (v := 17) d_Mo_node_63 (by decide) ?_
  refine z_aload_n 0 d_Mo_node_65 rfl rfl ?_
  refine z_iload_n 1 d_Mo_node_66 rfl rfl ?_
  refine z_iconst (v := 1) d_Mo_node_67 (by decide) ?_
  refine z_isub d_Mo_node_68 ?_
  refine z_topv (v := nI 1) (by decide) ?_
  refine z_iconst (v := (nI 2)) d_Mo_node_69 (by decide) ?_
  refine z_iload_n 2 d_Mo_node_70 rfl rfl ?_
  refine z_imul d_Mo_node_71 ?_
  refine z_topv (v := nI (2 * kk)) (pk_mul 2 kk) ?_
  refine z_iconst (v := 1) d_Mo_node_72 (by decide) ?_
  refine z_iadd d_Mo_node_73 ?_
  refine z_topv (v := nI (2 * kk + 1)) (nI_1 _) ?_
  refine z_iload_n 3 d_Mo_node_74 rfl rfl ?_
  refine z_iload 4 d_Mo_node_75 rfl ?_
  refine z_callV0 ((m_Mo_node_1E hs0 hst hM (kk := 2 * kk + 1) (by omega) o lf)) ym_Mo_node qM_Mo_218 qI_Mo_node qV_Mo_Mo_node zc_Mo hM.mo d_Mo_node_77 rfl (Nat.le_of_ble_eq_true rfl) ⟨Nat.zero_le _, Nat.zero_le _⟩ ⟨Nat.le_of_ble_eq_true rfl, Nat.le_of_ble_eq_true rfl⟩ ?_
  refine z_imul d_Mo_node_80 ?_
  refine z_iadd d_Mo_node_81 ?_
  refine z_iconst (v := 5) d_Mo_node_82 (by decide) ?_
  refine z_iadd d_Mo_node_83 ?_
  refine z_sipush (v := 9973) d_Mo_node_84 (by decide) ?_
  refine z_irem d_Mo_node_87 (by decide) ?_
  exact z_iret rfl (⟨rfl, rfl⟩) (by first | decide | omega) (by first | decide | omega) d_Mo_node_88
set_option maxHeartbeats 4000000 in
set_option maxRecDepth 100000 in
theorem m_Mo_node_3E {g0 : State} {d : zD} {l : Launch} {a0 : Array Value} (hs0 : zS0 d a0 g0) (hst : l.stackTraces = false) {G : zG} {B : Nat → Nat} {V : Nat → Nat → Int32} {nk ns ne ec : Nat} (hM : zM d B V nk ns ne ec G) {kk : Nat} (hkk : kk < 131072) (o lf : Int32) : zMet g0 d l y_Mo_node c_Mo_node 5 ((Option.some Jvm.ClassFile.FieldType.int)) 15 0 0 [.ref (B 0), .int (nI 3), .int (nI kk), .int o, .int lf] (G) (zEq (some (.int (znode V ne o lf 3 kk))) G) (zNo) := by
  have hnk : nk ≤ 8 := hM.2.1
  have hns : ns ≤ 6 := hM.2.2.1
  have hne : ne ≤ 64 := hM.2.2.2.1
  have hp2 : 2 ^ nk ≤ 256 := Nat.pow_le_pow_right (n := 2) (by decide) hnk
  refine z_entry hs0 hst (by decide) (Nat.le_of_ble_eq_true rfl) (fun p e s m args below meth c => ?_)
  refine z_iload_n 1 d_Mo_node_0 rfl rfl ?_
  refine z_if_ne 47 d_Mo_node_1 (by decide) (fun c_1 => ?_) (fun c_1 => absurd c_1 (by decide))
  refine z_bipush (v := 31) d_Mo_node_47 (by decide) ?_
  refine z_aload_n 0 d_Mo_node_49 rfl rfl ?_
  refine z_iload_n 1 d_Mo_node_50 rfl rfl ?_
  refine z_iconst (v := 1) d_Mo_node_51 (by decide) ?_
  refine z_isub d_Mo_node_52 ?_
  refine z_topv (v := nI 2) (by decide) ?_
  refine z_iconst (v := (nI 2)) d_Mo_node_53 (by decide) ?_
  refine z_iload_n 2 d_Mo_node_54 rfl rfl ?_
  refine z_imul d_Mo_node_55 ?_
  refine z_topv (v := nI (2 * kk)) (pk_mul 2 kk) ?_
  refine z_iload_n 3 d_Mo_node_56 rfl rfl ?_
  refine z_iload 4 d_Mo_node_57 rfl ?_
  refine z_callV0 ((m_Mo_node_2E hs0 hst hM (kk := 2 * kk) (by omega) o lf)) ym_Mo_node qM_Mo_218 qI_Mo_node qV_Mo_Mo_node zc_Mo hM.mo d_Mo_node_59 rfl (Nat.le_of_ble_eq_true rfl) ⟨Nat.zero_le _, Nat.zero_le _⟩ ⟨Nat.le_of_ble_eq_true rfl, Nat.le_of_ble_eq_true rfl⟩ ?_
  refine z_imul d_Mo_node_62 ?_
  refine z_bipush (v := 17) d_Mo_node_63 (by decide) ?_
  refine z_aload_n 0 d_Mo_node_65 rfl rfl ?_
  refine z_iload_n 1 d_Mo_node_66 rfl rfl ?_
  refine z_iconst (v := 1) d_Mo_node_67 (by decide) ?_
  refine z_isub d_Mo_node_68 ?_
  refine z_topv (v := nI 2) (by decide) ?_
  refine z_iconst (v := (nI 2)) d_Mo_node_69 (by decide) ?_
  refine z_iload_n 2 d_Mo_node_70 rfl rfl ?_
  refine z_imul d_Mo_node_71 ?_
  refine z_topv (v := nI (2 * kk)) (pk_mul 2 kk) ?_
  refine z_iconst (v := 1) d_Mo_node_72 (by decide) ?_
  refine z_iadd d_Mo_node_73 ?_
  refine z_topv (v := nI (2 * kk + 1)) (nI_1 _) ?_
  refine z_iload_n 3 d_Mo_node_74 rfl rfl ?_
  refine z_iload 4 d_Mo_node_75 rfl ?_
  refine z_callV0 ((m_Mo_node_2E hs0 hst hM (kk := 2 * kk + 1) (by omega) o lf)) ym_Mo_node qM_Mo_218 qI_Mo_node qV_Mo_Mo_node zc_Mo hM.mo d_Mo_node_77 rfl (Nat.le_of_ble_eq_true rfl) ⟨Nat.zero_le _, Nat.zero_le _⟩ ⟨Nat.le_of_ble_eq_true rfl, Nat.le_of_ble_eq_true rfl⟩ ?_
  refine z_imul d_Mo_node_80 ?_
  refine z_iadd d_Mo_node_81 ?_
  refine z_iconst (v := 5) d_Mo_node_82 (by decide) ?_
  refine z_iadd d_Mo_node_83 ?_
  refine z_sipush (v := 9973) d_Mo_node_84 (by decide) ?_
  refine z_irem d_Mo_node_87 (by decide) ?_
  exact z_iret rfl (⟨rfl, rfl⟩) (by first | decide | omega) (by first | decide | omega) d_Mo_node_88
set_option maxHeartbeats 4000000 in
set_option maxRecDepth 100000 in
theorem m_Mo_node_4E {g0 : State} {d : zD} {l : Launch} {a0 : Array Value} (hs0 : zS0 d a0 g0) (hst : l.stackTraces = false) {G : zG} {B : Nat → Nat} {V : Nat → Nat → Int32} {nk ns ne ec : Nat} (hM : zM d B V nk ns ne ec G) {kk : Nat} (hkk : kk < 65536) (o lf : Int32) : zMet g0 d l y_Mo_node c_Mo_node 5 ((Option.some Jvm.ClassFile.FieldType.int)) 16 0 0 [.ref (B 0), .int (nI 4), .int (nI kk), .int o, .int lf] (G) (zEq (some (.int (znode V ne o lf 4 kk))) G) (zNo) := by
  have hnk : nk ≤ 8 := hM.2.1
  have hns : ns ≤ 6 := hM.2.2.1
  have hne : ne ≤ 64 := hM.2.2.2.1
  have hp2 : 2 ^ nk ≤ 256 := Nat.pow_le_pow_right (n := 2) (by decide) hnk
  refine z_entry hs0 hst (by decide) (Nat.le_of_ble_eq_true rfl) (fun p e s m args below meth c => ?_)
  refine z_iload_n 1 d_Mo_node_0 rfl rfl ?_
  refine z_if_ne 47 d_Mo_node_1 (by decide) (fun c_1 => ?_) (fun c_1 => absurd c_1 (by decide))
  refine z_bipush (v := 31) d_Mo_node_47 (by decide) ?_
  refine z_aload_n 0 d_Mo_node_49 rfl rfl ?_
  refine z_iload_n 1 d_Mo_node_50 rfl rfl ?_
  refine z_iconst (v := 1) d_Mo_node_51 (by decide) ?_
  refine z_isub d_Mo_node_52 ?_
  refine z_topv (v := nI 3) (by decide) ?_
  refine z_iconst (v := (nI 2)) d_Mo_node_53 (by decide) ?_
  refine z_iload_n 2 d_Mo_node_54 rfl rfl ?_
  refine z_imul d_Mo_node_55 ?_
  refine z_topv (v := nI (2 * kk)) (pk_mul 2 kk) ?_
  refine z_iload_n 3 d_Mo_node_56 rfl rfl ?_
  refine z_iload 4 d_Mo_node_57 rfl ?_
  refine z_callV0 ((m_Mo_node_3E hs0 hst hM (kk := 2 * kk) (by omega) o lf)) ym_Mo_node qM_Mo_218 qI_Mo_node qV_Mo_Mo_node zc_Mo hM.mo d_Mo_node_59 rfl (Nat.le_of_ble_eq_true rfl) ⟨Nat.zero_le _, Nat.zero_le _⟩ ⟨Nat.le_of_ble_eq_true rfl, Nat.le_of_ble_eq_true rfl⟩ ?_
  refine z_imul d_Mo_node_62 ?_
  refine z_bipush (v := 17) d_Mo_node_63 (by decide) ?_
  refine z_aload_n 0 d_Mo_node_65 rfl rfl ?_
  refine z_iload_n 1 d_Mo_node_66 rfl rfl ?_
  refine z_iconst (v := 1) d_Mo_node_67 (by decide) ?_
  refine z_isub d_Mo_node_68 ?_
  refine z_topv (v := nI 3) (by decide) ?_
  refine z_iconst (v := (nI 2)) d_Mo_node_69 (by decide) ?_
  refine z_iload_n 2 d_Mo_node_70 rfl rfl ?_
  refine z_imul d_Mo_node_71 ?_
  refine z_topv (v := nI (2 * kk)) (pk_mul 2 kk) ?_
  refine z_iconst (v := 1) d_Mo_node_72 (by decide) ?_
  refine z_iadd d_Mo_node_73 ?_
  refine z_topv (v := nI (2 * kk + 1)) (nI_1 _) ?_
  refine z_iload_n 3 d_Mo_node_74 rfl rfl ?_
  refine z_iload 4 d_Mo_node_75 rfl ?_
  refine z_callV0 ((m_Mo_node_3E hs0 hst hM (kk := 2 * kk + 1) (by omega) o lf)) ym_Mo_node qM_Mo_218 qI_Mo_node qV_Mo_Mo_node zc_Mo hM.mo d_Mo_node_77 rfl (Nat.le_of_ble_eq_true rfl) ⟨Nat.zero_le _, Nat.zero_le _⟩ ⟨Nat.le_of_ble_eq_true rfl, Nat.le_of_ble_eq_true rfl⟩ ?_
  refine z_imul d_Mo_node_80 ?_
  refine z_iadd d_Mo_node_81 ?_
  refine z_iconst (v := 5) d_Mo_node_82 (by decide) ?_
  refine z_iadd d_Mo_node_83 ?_
  refine z_sipush (v := 9973) d_Mo_node_84 (by decide) ?_
  refine z_irem d_Mo_node_87 (by decide) ?_
  exact z_iret rfl (⟨rfl, rfl⟩) (by first | decide | omega) (by first | decide | omega) d_Mo_node_88
set_option maxHeartbeats 4000000 in
set_option maxRecDepth 100000 in
theorem m_Mo_node_5E {g0 : State} {d : zD} {l : Launch} {a0 : Array Value} (hs0 : zS0 d a0 g0) (hst : l.stackTraces = false) {G : zG} {B : Nat → Nat} {V : Nat → Nat → Int32} {nk ns ne ec : Nat} (hM : zM d B V nk ns ne ec G) {kk : Nat} (hkk : kk < 32768) (o lf : Int32) : zMet g0 d l y_Mo_node c_Mo_node 5 ((Option.some Jvm.ClassFile.FieldType.int)) 17 0 0 [.ref (B 0), .int (nI 5), .int (nI kk), .int o, .int lf] (G) (zEq (some (.int (znode V ne o lf 5 kk))) G) (zNo) := by
  have hnk : nk ≤ 8 := hM.2.1
  have hns : ns ≤ 6 := hM.2.2.1
  have hne : ne ≤ 64 := hM.2.2.2.1
  have hp2 : 2 ^ nk ≤ 256 := Nat.pow_le_pow_right (n := 2) (by decide) hnk
  refine z_entry hs0 hst (by decide) (Nat.le_of_ble_eq_true rfl) (fun p e s m args below meth c => ?_)
  refine z_iload_n 1 d_Mo_node_0 rfl rfl ?_
  refine z_if_ne 47 d_Mo_node_1 (by decide) (fun c_1 => ?_) (fun c_1 => absurd c_1 (by decide))
  refine z_bipush (v := 31) d_Mo_node_47 (by decide) ?_
  refine z_aload_n 0 d_Mo_node_49 rfl rfl ?_
  refine z_iload_n 1 d_Mo_node_50 rfl rfl ?_
  refine z_iconst (v := 1) d_Mo_node_51 (by decide) ?_
  refine z_isub d_Mo_node_52 ?_
  refine z_topv (v := nI 4) (by decide) ?_
  refine z_iconst (v := (nI 2)) d_Mo_node_53 (by decide) ?_
  refine z_iload_n 2 d_Mo_node_54 rfl rfl ?_
  refine z_imul d_Mo_node_55 ?_
  refine z_topv (v := nI (2 * kk)) (pk_mul 2 kk) ?_
  refine z_iload_n 3 d_Mo_node_56 rfl rfl ?_
  refine z_iload 4 d_Mo_node_57 rfl ?_
  refine z_callV0 ((m_Mo_node_4E hs0 hst hM (kk := 2 * kk) (by omega) o lf)) ym_Mo_node qM_Mo_218 qI_Mo_node qV_Mo_Mo_node zc_Mo hM.mo d_Mo_node_59 rfl (Nat.le_of_ble_eq_true rfl) ⟨Nat.zero_le _, Nat.zero_le _⟩ ⟨Nat.le_of_ble_eq_true rfl, Nat.le_of_ble_eq_true rfl⟩ ?_
  refine z_imul d_Mo_node_62 ?_
  refine z_bipush (v := 17) d_Mo_node_63 (by decide) ?_
  refine z_aload_n 0 d_Mo_node_65 rfl rfl ?_
  refine z_iload_n 1 d_Mo_node_66 rfl rfl ?_
  refine z_iconst (v := 1) d_Mo_node_67 (by decide) ?_
  refine z_isub d_Mo_node_68 ?_
  refine z_topv (v := nI 4) (by decide) ?_
  refine z_iconst (v := (nI 2)) d_Mo_node_69 (by decide) ?_
  refine z_iload_n 2 d_Mo_node_70 rfl rfl ?_
  refine z_imul d_Mo_node_71 ?_
  refine z_topv (v := nI (2 * kk)) (pk_mul 2 kk) ?_
  refine z_iconst (v := 1) d_Mo_node_72 (by decide) ?_
  refine z_iadd d_Mo_node_73 ?_
  refine z_topv (v := nI (2 * kk + 1)) (nI_1 _) ?_
  refine z_iload_n 3 d_Mo_node_74 rfl rfl ?_
  refine z_iload 4 d_Mo_node_75 rfl ?_
  refine z_callV0 ((m_Mo_node_4E hs0 hst hM (kk := 2 * kk + 1) (by omega) o lf)) ym_Mo_node qM_Mo_218 qI_Mo_node qV_Mo_Mo_node zc_Mo hM.mo d_Mo_node_77 rfl (Nat.le_of_ble_eq_true rfl) ⟨Nat.zero_le _, Nat.zero_le _⟩ ⟨Nat.le_of_ble_eq_true rfl, Nat.le_of_ble_eq_true rfl⟩ ?_
  refine z_imul d_Mo_node_80 ?_
  refine z_iadd d_Mo_node_81 ?_
  refine z_iconst (v := 5) d_Mo_node_82 (by decide) ?_
  refine z_iadd d_Mo_node_83 ?_
  refine z_sipush (v := 9973) d_Mo_node_84 (by decide) ?_
  refine z_irem d_Mo_node_87 (by decide) ?_
  exact z_iret rfl (⟨rfl, rfl⟩) (by first | decide | omega) (by first | decide | omega) d_Mo_node_88
set_option maxHeartbeats 4000000 in
set_option maxRecDepth 100000 in
theorem m_Mo_proofNow_0E {g0 : State} {d : zD} {l : Launch} {a0 : Array Value} (hs0 : zS0 d a0 g0) (hst : l.stackTraces = false) {G : zG} {B : Nat → Nat} {V : Nat → Nat → Int32} {nk ns ne ec : Nat} (hM : zM d B V nk ns ne ec G) {e9 : Nat} (he : e9 < 64) : zMet g0 d l y_Mo_proofNow c_Mo_proofNow 5 ((Option.some Jvm.ClassFile.FieldType.int)) 20 0 0 [.ref (B 0), .int (nI e9), .int (nI 0)] (G) (zEq (some (.int (znode V ne (-1) 0 0 (zsib e9 0)))) G) (zNo) := by
  have hnk : nk ≤ 8 := hM.2.1
  have hns : ns ≤ 6 := hM.2.2.1
  have hne : ne ≤ 64 := hM.2.2.2.1
  have hp2 : 2 ^ nk ≤ 256 := Nat.pow_le_pow_right (n := 2) (by decide) hnk
  refine z_entry hs0 hst (by decide) (Nat.le_of_ble_eq_true rfl) (fun p e s m args below meth c => ?_)
  refine z_iload_n 1 d_Mo_proofNow_0 rfl rfl ?_
  refine z_topv (v := nI (e9 / 2 ^ 0)) (by rw [Nat.pow_zero, Nat.div_one]) ?_
  refine z_istore_n (L' := [(3, _), (0, _), (1, _), (2, _)]) d_Mo_proofNow_1 rfl (by decide) rfl ?_
  refine z_iconst (v := (nI 0)) d_Mo_proofNow_2 (by decide) ?_
  refine z_istore (L' := [(4, _), (3, _), (0, _), (1, _), (2, _)]) d_Mo_proofNow_3 (by decide) rfl ?_
  have key_5 : ∀ (n : Nat) (i : Nat), 0 - i < n → (i ≤ 0) → Z g0 d y_Mo_proofNow c_Mo_proofNow 5 ((Option.some Jvm.ClassFile.FieldType.int)) [] p l e (zR 20 0 0) s m args below meth c (vx_MQ below (zQc g0 d (zEq (some (.int (znode V ne (-1) 0 0 (zsib e9 0)))) G)) (zXc g0 d (zNo)) args s 0 0 (zA g0)) 0 0 (G) [(4, .int (nI i)), (3, .int (nI (e9 / 2 ^ i))), (0, .ref (B 0)), (1, .int (nI e9)), (2, .int (nI 0))] [] 5 := by
    intro n
    induction n with
    | zero => intro i h0; exact absurd h0 (Nat.not_lt_zero _)
    | succ n ih_5 =>
      intro i hm_5 hi
      have hle9 : e9 / 2 ^ i ≤ e9 := Nat.div_le_self _ _
      refine z_iload 0 d_Mo_proofNow_5 rfl ?_
      refine z_iload_n 4 d_Mo_proofNow_7 rfl rfl ?_
      refine z_icmp_ge 21 d_Mo_proofNow_8 (by decide) (fun c_8 => ?_) (fun c_8 => ?_)
      · skip
        obtain rfl : i = 0 := by
          have := (nI_leI (a := 0) (b := i) (by decide) (by omega)).mp c_8
          omega
        refine z_aload_n 2 d_Mo_proofNow_21 rfl rfl ?_
        refine z_iload_n 4 d_Mo_proofNow_22 rfl rfl ?_
        refine z_iload_n 1 d_Mo_proofNow_23 rfl rfl ?_
        refine z_iconst (v := 2) d_Mo_proofNow_24 (by decide) ?_
        refine z_irem d_Mo_proofNow_25 (by decide) ?_
        refine z_topv (v := nI (e9 / 2 ^ 0 % 2)) (by rw [show (2 : Int32) = nI 2 from rfl]; exact pk_rem (by omega) (by decide) (by decide)) ?_
        refine z_if_ne 35 d_Mo_proofNow_26 (by decide) (fun c_26 => ?_) (fun c_26 => ?_)
        · skip
          have hz : ¬ e9 / 2 ^ 0 % 2 = 0 := fun q => c_26 ((nI_z (by omega)).mpr q)
          have hk1 : 1 ≤ e9 / 2 ^ 0 := Nat.pos_of_ne_zero fun q => hz (by rw [q])
          refine z_iload_n 1 d_Mo_proofNow_35 rfl rfl ?_
          refine z_iconst (v := 1) d_Mo_proofNow_36 (by decide) ?_
          refine z_isub d_Mo_proofNow_37 ?_
          refine z_topv (v := nI (e9 / 2 ^ 0 - 1)) (nI_s1 hk1 (by omega)) ?_
          refine z_iconst (v := (-1)) d_Mo_proofNow_38 (by decide) ?_
          refine z_iconst (v := 0) d_Mo_proofNow_39 (by decide) ?_
          refine z_callV0 ((m_Mo_node_0E hs0 hst hM (by omega) (-1) 0)) ym_Mo_node qM_Mo_218 qI_Mo_node qV_Mo_Mo_node zc_Mo hM.mo d_Mo_proofNow_40 rfl (Nat.le_of_ble_eq_true rfl) ⟨Nat.zero_le _, Nat.zero_le _⟩ ⟨Nat.le_of_ble_eq_true rfl, Nat.le_of_ble_eq_true rfl⟩ ?_
          exact z_iret rfl (⟨by unfold zsib; first | rw [if_pos hz] | rw [if_neg hz], rfl⟩) (by first | decide | omega) (by first | decide | omega) d_Mo_proofNow_43
        · skip
          have hz : e9 / 2 ^ 0 % 2 = 0 := (nI_z (by omega)).mp c_26
          refine z_iload_n 1 d_Mo_proofNow_29 rfl rfl ?_
          refine z_iconst (v := 1) d_Mo_proofNow_30 (by decide) ?_
          refine z_iadd d_Mo_proofNow_31 ?_
          refine z_topv (v := nI (e9 / 2 ^ 0 + 1)) (nI_1 _) ?_
          refine z_goto 38 d_Mo_proofNow_32 (by decide) ?_
          refine z_iconst (v := (-1)) d_Mo_proofNow_38 (by decide) ?_
          refine z_iconst (v := 0) d_Mo_proofNow_39 (by decide) ?_
          refine z_callV0 ((m_Mo_node_0E hs0 hst hM (by omega) (-1) 0)) ym_Mo_node qM_Mo_218 qI_Mo_node qV_Mo_Mo_node zc_Mo hM.mo d_Mo_proofNow_40 rfl (Nat.le_of_ble_eq_true rfl) ⟨Nat.zero_le _, Nat.zero_le _⟩ ⟨Nat.le_of_ble_eq_true rfl, Nat.le_of_ble_eq_true rfl⟩ ?_
          exact z_iret rfl (⟨by unfold zsib; first | rw [if_pos hz] | rw [if_neg hz], rfl⟩) (by first | decide | omega) (by first | decide | omega) d_Mo_proofNow_43
      · skip
        have hi6 : i < 0 := Nat.lt_of_not_le fun q => c_8 (nI_le (a := 0) (b := i) q (by omega))
        refine z_iload_n 1 d_Mo_proofNow_11 rfl rfl ?_
        refine z_iconst (v := 2) d_Mo_proofNow_12 (by decide) ?_
        refine z_idiv d_Mo_proofNow_13 (by decide) ?_
        refine z_topv (v := nI (e9 / 2 ^ (i + 1))) (by rw [show (2 : Int32) = nI 2 from rfl, ← ndiv2 e9 (by omega) i (by omega)]; exact pk_div (by omega) (by decide) (by decide)) ?_
        refine z_istore_n (L' := [(3, _), (4, _), (0, _), (1, _), (2, _)]) d_Mo_proofNow_14 rfl (by decide) rfl ?_
        refine z_iinc (v := nI (i + 1)) (L' := [(4, _), (3, _), (0, _), (1, _), (2, _)]) 1 d_Mo_proofNow_15 rfl (nI_1 i) (by decide) rfl ?_
        refine z_goto 5 d_Mo_proofNow_18 (by decide) ?_
        exact ih_5 (i + 1) (by omega) (by omega)
  exact key_5 1 0 (by omega) (by omega)
set_option maxHeartbeats 4000000 in
set_option maxRecDepth 100000 in
theorem m_Mo_proofNow_1E {g0 : State} {d : zD} {l : Launch} {a0 : Array Value} (hs0 : zS0 d a0 g0) (hst : l.stackTraces = false) {G : zG} {B : Nat → Nat} {V : Nat → Nat → Int32} {nk ns ne ec : Nat} (hM : zM d B V nk ns ne ec G) {e9 : Nat} (he : e9 < 64) : zMet g0 d l y_Mo_proofNow c_Mo_proofNow 5 ((Option.some Jvm.ClassFile.FieldType.int)) 20 0 0 [.ref (B 0), .int (nI e9), .int (nI 1)] (G) (zEq (some (.int (znode V ne (-1) 0 1 (zsib e9 1)))) G) (zNo) := by
  have hnk : nk ≤ 8 := hM.2.1
  have hns : ns ≤ 6 := hM.2.2.1
  have hne : ne ≤ 64 := hM.2.2.2.1
  have hp2 : 2 ^ nk ≤ 256 := Nat.pow_le_pow_right (n := 2) (by decide) hnk
  refine z_entry hs0 hst (by decide) (Nat.le_of_ble_eq_true rfl) (fun p e s m args below meth c => ?_)
  refine z_iload_n 1 d_Mo_proofNow_0 rfl rfl ?_
  refine z_topv (v := nI (e9 / 2 ^ 0)) (by rw [Nat.pow_zero, Nat.div_one]) ?_
  refine z_istore_n (L' := [(3, _), (0, _), (1, _), (2, _)]) d_Mo_proofNow_1 rfl (by decide) rfl ?_
  refine z_iconst (v := (nI 0)) d_Mo_proofNow_2 (by decide) ?_
  refine z_istore (L' := [(4, _), (3, _), (0, _), (1, _), (2, _)]) d_Mo_proofNow_3 (by decide) rfl ?_
  have key_5 : ∀ (n : Nat) (i : Nat), 1 - i < n → (i ≤ 1) → Z g0 d y_Mo_proofNow c_Mo_proofNow 5 ((Option.some Jvm.ClassFile.FieldType.int)) [] p l e (zR 20 0 0) s m args below meth c (vx_MQ below (zQc g0 d (zEq (some (.int (znode V ne (-1) 0 1 (zsib e9 1)))) G)) (zXc g0 d (zNo)) args s 0 0 (zA g0)) 0 0 (G) [(4, .int (nI i)), (3, .int (nI (e9 / 2 ^ i))), (0, .ref (B 0)), (1, .int (nI e9)), (2, .int (nI 1))] [] 5 := by
    intro n
    induction n with
    | zero => intro i h0; exact absurd h0 (Nat.not_lt_zero _)
    | succ n ih_5 =>
      intro i hm_5 hi
      have hle9 : e9 / 2 ^ i ≤ e9 := Nat.div_le_self _ _
      refine z_iload 0 d_Mo_proofNow_5 rfl ?_
      refine z_iload_n 4 d_Mo_proofNow_7 rfl rfl ?_
      refine z_icmp_ge 21 d_Mo_proofNow_8 (by decide) (fun c_8 => ?_) (fun c_8 => ?_)
      · skip
        obtain rfl : i = 1 := by
          have := (nI_leI (a := 1) (b := i) (by decide) (by omega)).mp c_8
          omega
        refine z_aload_n 2 d_Mo_proofNow_21 rfl rfl ?_
        refine z_iload_n 4 d_Mo_proofNow_22 rfl rfl ?_
        refine z_iload_n 1 d_Mo_proofNow_23 rfl rfl ?_
        refine z_iconst (v := 2) d_Mo_proofNow_24 (by decide) ?_
        refine z_irem d_Mo_proofNow_25 (by decide) ?_
        refine z_topv (v := nI (e9 / 2 ^ 1 % 2)) (by rw [show (2 : Int32) = nI 2 from rfl]; exact pk_rem (by omega) (by decide) (by decide)) ?_
        refine z_if_ne 35 d_Mo_proofNow_26 (by decide) (fun c_26 => ?_) (fun c_26 => ?_)
        · skip
          have hz : ¬ e9 / 2 ^ 1 % 2 = 0 := fun q => c_26 ((nI_z (by omega)).mpr q)
          have hk1 : 1 ≤ e9 / 2 ^ 1 := Nat.pos_of_ne_zero fun q => hz (by rw [q])
          refine z_iload_n 1 d_Mo_proofNow_35 rfl rfl ?_
          refine z_iconst (v := 1) d_Mo_proofNow_36 (by decide) ?_
          refine z_isub d_Mo_proofNow_37 ?_
          refine z_topv (v := nI (e9 / 2 ^ 1 - 1)) (nI_s1 hk1 (by omega)) ?_
          refine z_iconst (v := (-1)) d_Mo_proofNow_38 (by decide) ?_
          refine z_iconst (v := 0) d_Mo_proofNow_39 (by decide) ?_
          refine z_callV0 ((m_Mo_node_1E hs0 hst hM (by omega) (-1) 0)) ym_Mo_node qM_Mo_218 qI_Mo_node qV_Mo_Mo_node zc_Mo hM.mo d_Mo_proofNow_40 rfl (Nat.le_of_ble_eq_true rfl) ⟨Nat.zero_le _, Nat.zero_le _⟩ ⟨Nat.le_of_ble_eq_true rfl, Nat.le_of_ble_eq_true rfl⟩ ?_
          exact z_iret rfl (⟨by unfold zsib; first | rw [if_pos hz] | rw [if_neg hz], rfl⟩) (by first | decide | omega) (by first | decide | omega) d_Mo_proofNow_43
        · skip
          have hz : e9 / 2 ^ 1 % 2 = 0 := (nI_z (by omega)).mp c_26
          refine z_iload_n 1 d_Mo_proofNow_29 rfl rfl ?_
          refine z_iconst (v := 1) d_Mo_proofNow_30 (by decide) ?_
          refine z_iadd d_Mo_proofNow_31 ?_
          refine z_topv (v := nI (e9 / 2 ^ 1 + 1)) (nI_1 _) ?_
          refine z_goto 38 d_Mo_proofNow_32 (by decide) ?_
          refine z_iconst (v := (-1)) d_Mo_proofNow_38 (by decide) ?_
          refine z_iconst (v := 0) d_Mo_proofNow_39 (by decide) ?_
          refine z_callV0 ((m_Mo_node_1E hs0 hst hM (by omega) (-1) 0)) ym_Mo_node qM_Mo_218 qI_Mo_node qV_Mo_Mo_node zc_Mo hM.mo d_Mo_proofNow_40 rfl (Nat.le_of_ble_eq_true rfl) ⟨Nat.zero_le _, Nat.zero_le _⟩ ⟨Nat.le_of_ble_eq_true rfl, Nat.le_of_ble_eq_true rfl⟩ ?_
          exact z_iret rfl (⟨by unfold zsib; first | rw [if_pos hz] | rw [if_neg hz], rfl⟩) (by first | decide | omega) (by first | decide | omega) d_Mo_proofNow_43
      · skip
        have hi6 : i < 1 := Nat.lt_of_not_le fun q => c_8 (nI_le (a := 1) (b := i) q (by omega))
        refine z_iload_n 1 d_Mo_proofNow_11 rfl rfl ?_
        refine z_iconst (v := 2) d_Mo_proofNow_12 (by decide) ?_
        refine z_idiv d_Mo_proofNow_13 (by decide) ?_
        refine z_topv (v := nI (e9 / 2 ^ (i + 1))) (by rw [show (2 : Int32) = nI 2 from rfl, ← ndiv2 e9 (by omega) i (by omega)]; exact pk_div (by omega) (by decide) (by decide)) ?_
        refine z_istore_n (L' := [(3, _), (4, _), (0, _), (1, _), (2, _)]) d_Mo_proofNow_14 rfl (by decide) rfl ?_
        refine z_iinc (v := nI (i + 1)) (L' := [(4, _), (3, _), (0, _), (1, _), (2, _)]) 1 d_Mo_proofNow_15 rfl (nI_1 i) (by decide) rfl ?_
        refine z_goto 5 d_Mo_proofNow_18 (by decide) ?_
        exact ih_5 (i + 1) (by omega) (by omega)
  exact key_5 2 0 (by omega) (by omega)
set_option maxHeartbeats 4000000 in
set_option maxRecDepth 100000 in
theorem m_Mo_proofNow_2E {g0 : State} {d : zD} {l : Launch} {a0 : Array Value} (hs0 : zS0 d a0 g0) (hst : l.stackTraces = false) {G : zG} {B : Nat → Nat} {V : Nat → Nat → Int32} {nk ns ne ec : Nat} (hM : zM d B V nk ns ne ec G) {e9 : Nat} (he : e9 < 64) : zMet g0 d l y_Mo_proofNow c_Mo_proofNow 5 ((Option.some Jvm.ClassFile.FieldType.int)) 20 0 0 [.ref (B 0), .int (nI e9), .int (nI 2)] (G) (zEq (some (.int (znode V ne (-1) 0 2 (zsib e9 2)))) G) (zNo) := by
  have hnk : nk ≤ 8 := hM.2.1
  have hns : ns ≤ 6 := hM.2.2.1
  have hne : ne ≤ 64 := hM.2.2.2.1
  have hp2 : 2 ^ nk ≤ 256 := Nat.pow_le_pow_right (n := 2) (by decide) hnk
  refine z_entry hs0 hst (by decide) (Nat.le_of_ble_eq_true rfl) (fun p e s m args below meth c => ?_)
  refine z_iload_n 1 d_Mo_proofNow_0 rfl rfl ?_
  refine z_topv (v := nI (e9 / 2 ^ 0)) (by rw [Nat.pow_zero, Nat.div_one]) ?_
  refine z_istore_n (L' := [(3, _), (0, _), (1, _), (2, _)]) d_Mo_proofNow_1 rfl (by decide) rfl ?_
  refine z_iconst (v := (nI 0)) d_Mo_proofNow_2 (by decide) ?_
  refine z_istore (L' := [(4, _), (3, _), (0, _), (1, _), (2, _)]) d_Mo_proofNow_3 (by decide) rfl ?_
  have key_5 : ∀ (n : Nat) (i : Nat), 2 - i < n → (i ≤ 2) → Z g0 d y_Mo_proofNow c_Mo_proofNow 5 ((Option.some Jvm.ClassFile.FieldType.int)) [] p l e (zR 20 0 0) s m args below meth c (vx_MQ below (zQc g0 d (zEq (some (.int (znode V ne (-1) 0 2 (zsib e9 2)))) G)) (zXc g0 d (zNo)) args s 0 0 (zA g0)) 0 0 (G) [(4, .int (nI i)), (3, .int (nI (e9 / 2 ^ i))), (0, .ref (B 0)), (1, .int (nI e9)), (2, .int (nI 2))] [] 5 := by
    intro n
    induction n with
    | zero => intro i h0; exact absurd h0 (Nat.not_lt_zero _)
    | succ n ih_5 =>
      intro i hm_5 hi
      have hle9 : e9 / 2 ^ i ≤ e9 := Nat.div_le_self _ _
      refine z_iload 0 d_Mo_proofNow_5 rfl ?_
      refine z_iload_n 4 d_Mo_proofNow_7 rfl rfl ?_
      refine z_icmp_ge 21 d_Mo_proofNow_8 (by decide) (fun c_8 => ?_) (fun c_8 => ?_)
      · skip
        obtain rfl : i = 2 := by
          have := (nI_leI (a := 2) (b := i) (by decide) (by omega)).mp c_8
          omega
        refine z_aload_n 2 d_Mo_proofNow_21 rfl rfl ?_
        refine z_iload_n 4 d_Mo_proofNow_22 rfl rfl ?_
        refine z_iload_n 1 d_Mo_proofNow_23 rfl rfl ?_
        refine z_iconst (v := 2) d_Mo_proofNow_24 (by decide) ?_
        refine z_irem d_Mo_proofNow_25 (by decide) ?_
        refine z_topv (v := nI (e9 / 2 ^ 2 % 2)) (by rw [show (2 : Int32) = nI 2 from rfl]; exact pk_rem (by omega) (by decide) (by decide)) ?_
        refine z_if_ne 35 d_Mo_proofNow_26 (by decide) (fun c_26 => ?_) (fun c_26 => ?_)
        · skip
          have hz : ¬ e9 / 2 ^ 2 % 2 = 0 := fun q => c_26 ((nI_z (by omega)).mpr q)
          have hk1 : 1 ≤ e9 / 2 ^ 2 := Nat.pos_of_ne_zero fun q => hz (by rw [q])
          refine z_iload_n 1 d_Mo_proofNow_35 rfl rfl ?_
          refine z_iconst (v := 1) d_Mo_proofNow_36 (by decide) ?_
          refine z_isub d_Mo_proofNow_37 ?_
          refine z_topv (v := nI (e9 / 2 ^ 2 - 1)) (nI_s1 hk1 (by omega)) ?_
          refine z_iconst (v := (-1)) d_Mo_proofNow_38 (by decide) ?_
          refine z_iconst (v := 0) d_Mo_proofNow_39 (by decide) ?_
          refine z_callV0 ((m_Mo_node_2E hs0 hst hM (by omega) (-1) 0)) ym_Mo_node qM_Mo_218 qI_Mo_node qV_Mo_Mo_node zc_Mo hM.mo d_Mo_proofNow_40 rfl (Nat.le_of_ble_eq_true rfl) ⟨Nat.zero_le _, Nat.zero_le _⟩ ⟨Nat.le_of_ble_eq_true rfl, Nat.le_of_ble_eq_true rfl⟩ ?_
          exact z_iret rfl (⟨by unfold zsib; first | rw [if_pos hz] | rw [if_neg hz], rfl⟩) (by first | decide | omega) (by first | decide | omega) d_Mo_proofNow_43
        · skip
          have hz : e9 / 2 ^ 2 % 2 = 0 := (nI_z (by omega)).mp c_26
          refine z_iload_n 1 d_Mo_proofNow_29 rfl rfl ?_
          refine z_iconst (v := 1) d_Mo_proofNow_30 (by decide) ?_
          refine z_iadd d_Mo_proofNow_31 ?_
          refine z_topv (v := nI (e9 / 2 ^ 2 + 1)) (nI_1 _) ?_
          refine z_goto 38 d_Mo_proofNow_32 (by decide) ?_
          refine z_iconst (v := (-1)) d_Mo_proofNow_38 (by decide) ?_
          refine z_iconst (v := 0) d_Mo_proofNow_39 (by decide) ?_
          refine z_callV0 ((m_Mo_node_2E hs0 hst hM (by omega) (-1) 0)) ym_Mo_node qM_Mo_218 qI_Mo_node qV_Mo_Mo_node zc_Mo hM.mo d_Mo_proofNow_40 rfl (Nat.le_of_ble_eq_true rfl) ⟨Nat.zero_le _, Nat.zero_le _⟩ ⟨Nat.le_of_ble_eq_true rfl, Nat.le_of_ble_eq_true rfl⟩ ?_
          exact z_iret rfl (⟨by unfold zsib; first | rw [if_pos hz] | rw [if_neg hz], rfl⟩) (by first | decide | omega) (by first | decide | omega) d_Mo_proofNow_43
      · skip
        have hi6 : i < 2 := Nat.lt_of_not_le fun q => c_8 (nI_le (a := 2) (b := i) q (by omega))
        refine z_iload_n 1 d_Mo_proofNow_11 rfl rfl ?_
        refine z_iconst (v := 2) d_Mo_proofNow_12 (by decide) ?_
        refine z_idiv d_Mo_proofNow_13 (by decide) ?_
        refine z_topv (v := nI (e9 / 2 ^ (i + 1))) (by rw [show (2 : Int32) = nI 2 from rfl, ← ndiv2 e9 (by omega) i (by omega)]; exact pk_div (by omega) (by decide) (by decide)) ?_
        refine z_istore_n (L' := [(3, _), (4, _), (0, _), (1, _), (2, _)]) d_Mo_proofNow_14 rfl (by decide) rfl ?_
        refine z_iinc (v := nI (i + 1)) (L' := [(4, _), (3, _), (0, _), (1, _), (2, _)]) 1 d_Mo_proofNow_15 rfl (nI_1 i) (by decide) rfl ?_
        refine z_goto 5 d_Mo_proofNow_18 (by decide) ?_
        exact ih_5 (i + 1) (by omega) (by omega)
  exact key_5 3 0 (by omega) (by omega)
set_option maxHeartbeats 4000000 in
set_option maxRecDepth 100000 in
theorem m_Mo_proofNow_3E {g0 : State} {d : zD} {l : Launch} {a0 : Array Value} (hs0 : zS0 d a0 g0) (hst : l.stackTraces = false) {G : zG} {B : Nat → Nat} {V : Nat → Nat → Int32} {nk ns ne ec : Nat} (hM : zM d B V nk ns ne ec G) {e9 : Nat} (he : e9 < 64) : zMet g0 d l y_Mo_proofNow c_Mo_proofNow 5 ((Option.some Jvm.ClassFile.FieldType.int)) 20 0 0 [.ref (B 0), .int (nI e9), .int (nI 3)] (G) (zEq (some (.int (znode V ne (-1) 0 3 (zsib e9 3)))) G) (zNo) := by
  have hnk : nk ≤ 8 := hM.2.1
  have hns : ns ≤ 6 := hM.2.2.1
  have hne : ne ≤ 64 := hM.2.2.2.1
  have hp2 : 2 ^ nk ≤ 256 := Nat.pow_le_pow_right (n := 2) (by decide) hnk
  refine z_entry hs0 hst (by decide) (Nat.le_of_ble_eq_true rfl) (fun p e s m args below meth c => ?_)
  refine z_iload_n 1 d_Mo_proofNow_0 rfl rfl ?_
  refine z_topv (v := nI (e9 / 2 ^ 0)) (by rw [Nat.pow_zero, Nat.div_one]) ?_
  refine z_istore_n (L' := [(3, _), (0, _), (1, _), (2, _)]) d_Mo_proofNow_1 rfl (by decide) rfl ?_
  refine z_iconst (v := (nI 0)) d_Mo_proofNow_2 (by decide) ?_
  refine z_istore (L' := [(4, _), (3, _), (0, _), (1, _), (2, _)]) d_Mo_proofNow_3 (by decide) rfl ?_
  have key_5 : ∀ (n : Nat) (i : Nat), 3 - i < n → (i ≤ 3) → Z g0 d y_Mo_proofNow c_Mo_proofNow 5 ((Option.some Jvm.ClassFile.FieldType.int)) [] p l e (zR 20 0 0) s m args below meth c (vx_MQ below (zQc g0 d (zEq (some (.int (znode V ne (-1) 0 3 (zsib e9 3)))) G)) (zXc g0 d (zNo)) args s 0 0 (zA g0)) 0 0 (G) [(4, .int (nI i)), (3, .int (nI (e9 / 2 ^ i))), (0, .ref (B 0)), (1, .int (nI e9)), (2, .int (nI 3))] [] 5 := by
    intro n
    induction n with
    | zero => intro i h0; exact absurd h0 (Nat.not_lt_zero _)
    | succ n ih_5 =>
      intro i hm_5 hi
      have hle9 : e9 / 2 ^ i ≤ e9 := Nat.div_le_self _ _
      refine z_iload 0 d_Mo_proofNow_5 rfl ?_
      refine z_iload_n 4 d_Mo_proofNow_7 rfl rfl ?_
      refine z_icmp_ge 21 d_Mo_proofNow_8 (by decide) (fun c_8 => ?_) (fun c_8 => ?_)
      · skip
        obtain rfl : i = 3 := by
          have := (nI_leI (a := 3) (b := i) (by decide) (by omega)).mp c_8
          omega
        refine z_aload_n 2 d_Mo_proofNow_21 rfl rfl ?_
        refine z_iload_n 4 d_Mo_proofNow_22 rfl rfl ?_
        refine z_iload_n 1 d_Mo_proofNow_23 rfl rfl ?_
        refine z_iconst (v := 2) d_Mo_proofNow_24 (by decide) ?_
        refine z_irem d_Mo_proofNow_25 (by decide) ?_
        refine z_topv (v := nI (e9 / 2 ^ 3 % 2)) (by rw [show (2 : Int32) = nI 2 from rfl]; exact pk_rem (by omega) (by decide) (by decide)) ?_
        refine z_if_ne 35 d_Mo_proofNow_26 (by decide) (fun c_26 => ?_) (fun c_26 => ?_)
        · skip
          have hz : ¬ e9 / 2 ^ 3 % 2 = 0 := fun q => c_26 ((nI_z (by omega)).mpr q)
          have hk1 : 1 ≤ e9 / 2 ^ 3 := Nat.pos_of_ne_zero fun q => hz (by rw [q])
          refine z_iload_n 1 d_Mo_proofNow_35 rfl rfl ?_
          refine z_iconst (v := 1) d_Mo_proofNow_36 (by decide) ?_
          refine z_isub d_Mo_proofNow_37 ?_
          refine z_topv (v := nI (e9 / 2 ^ 3 - 1)) (nI_s1 hk1 (by omega)) ?_
          refine z_iconst (v := (-1)) d_Mo_proofNow_38 (by decide) ?_
          refine z_iconst (v := 0) d_Mo_proofNow_39 (by decide) ?_
          refine z_callV0 ((m_Mo_node_3E hs0 hst hM (by omega) (-1) 0)) ym_Mo_node qM_Mo_218 qI_Mo_node qV_Mo_Mo_node zc_Mo hM.mo d_Mo_proofNow_40 rfl (Nat.le_of_ble_eq_true rfl) ⟨Nat.zero_le _, Nat.zero_le _⟩ ⟨Nat.le_of_ble_eq_true rfl, Nat.le_of_ble_eq_true rfl⟩ ?_
          exact z_iret rfl (⟨by unfold zsib; first | rw [if_pos hz] | rw [if_neg hz], rfl⟩) (by first | decide | omega) (by first | decide | omega) d_Mo_proofNow_43
        · skip
          have hz : e9 / 2 ^ 3 % 2 = 0 := (nI_z (by omega)).mp c_26
          refine z_iload_n 1 d_Mo_proofNow_29 rfl rfl ?_
          refine z_iconst (v := 1) d_Mo_proofNow_30 (by decide) ?_
          refine z_iadd d_Mo_proofNow_31 ?_
          refine z_topv (v := nI (e9 / 2 ^ 3 + 1)) (nI_1 _) ?_
          refine z_goto 38 d_Mo_proofNow_32 (by decide) ?_
          refine z_iconst (v := (-1)) d_Mo_proofNow_38 (by decide) ?_
          refine z_iconst (v := 0) d_Mo_proofNow_39 (by decide) ?_
          refine z_callV0 ((m_Mo_node_3E hs0 hst hM (by omega) (-1) 0)) ym_Mo_node qM_Mo_218 qI_Mo_node qV_Mo_Mo_node zc_Mo hM.mo d_Mo_proofNow_40 rfl (Nat.le_of_ble_eq_true rfl) ⟨Nat.zero_le _, Nat.zero_le _⟩ ⟨Nat.le_of_ble_eq_true rfl, Nat.le_of_ble_eq_true rfl⟩ ?_
          exact z_iret rfl (⟨by unfold zsib; first | rw [if_pos hz] | rw [if_neg hz], rfl⟩) (by first | decide | omega) (by first | decide | omega) d_Mo_proofNow_43
      · skip
        have hi6 : i < 3 := Nat.lt_of_not_le fun q => c_8 (nI_le (a := 3) (b := i) q (by omega))
        refine z_iload_n 1 d_Mo_proofNow_11 rfl rfl ?_
        refine z_iconst (v := 2) d_Mo_proofNow_12 (by decide) ?_
        refine z_idiv d_Mo_proofNow_13 (by decide) ?_
        refine z_topv (v := nI (e9 / 2 ^ (i + 1))) (by rw [show (2 : Int32) = nI 2 from rfl, ← ndiv2 e9 (by omega) i (by omega)]; exact pk_div (by omega) (by decide) (by decide)) ?_
        refine z_istore_n (L' := [(3, _), (4, _), (0, _), (1, _), (2, _)]) d_Mo_proofNow_14 rfl (by decide) rfl ?_
        refine z_iinc (v := nI (i + 1)) (L' := [(4, _), (3, _), (0, _), (1, _), (2, _)]) 1 d_Mo_proofNow_15 rfl (nI_1 i) (by decide) rfl ?_
        refine z_goto 5 d_Mo_proofNow_18 (by decide) ?_
        exact ih_5 (i + 1) (by omega) (by omega)
  exact key_5 4 0 (by omega) (by omega)
set_option maxHeartbeats 4000000 in
set_option maxRecDepth 100000 in
theorem m_Mo_proofNow_4E {g0 : State} {d : zD} {l : Launch} {a0 : Array Value} (hs0 : zS0 d a0 g0) (hst : l.stackTraces = false) {G : zG} {B : Nat → Nat} {V : Nat → Nat → Int32} {nk ns ne ec : Nat} (hM : zM d B V nk ns ne ec G) {e9 : Nat} (he : e9 < 64) : zMet g0 d l y_Mo_proofNow c_Mo_proofNow 5 ((Option.some Jvm.ClassFile.FieldType.int)) 20 0 0 [.ref (B 0), .int (nI e9), .int (nI 4)] (G) (zEq (some (.int (znode V ne (-1) 0 4 (zsib e9 4)))) G) (zNo) := by
  have hnk : nk ≤ 8 := hM.2.1
  have hns : ns ≤ 6 := hM.2.2.1
  have hne : ne ≤ 64 := hM.2.2.2.1
  have hp2 : 2 ^ nk ≤ 256 := Nat.pow_le_pow_right (n := 2) (by decide) hnk
  refine z_entry hs0 hst (by decide) (Nat.le_of_ble_eq_true rfl) (fun p e s m args below meth c => ?_)
  refine z_iload_n 1 d_Mo_proofNow_0 rfl rfl ?_
  refine z_topv (v := nI (e9 / 2 ^ 0)) (by rw [Nat.pow_zero, Nat.div_one]) ?_
  refine z_istore_n (L' := [(3, _), (0, _), (1, _), (2, _)]) d_Mo_proofNow_1 rfl (by decide) rfl ?_
  refine z_iconst (v := (nI 0)) d_Mo_proofNow_2 (by decide) ?_
  refine z_istore (L' := [(4, _), (3, _), (0, _), (1, _), (2, _)]) d_Mo_proofNow_3 (by decide) rfl ?_
  have key_5 : ∀ (n : Nat) (i : Nat), 4 - i < n → (i ≤ 4) → Z g0 d y_Mo_proofNow c_Mo_proofNow 5 ((Option.some Jvm.ClassFile.FieldType.int)) [] p l e (zR 20 0 0) s m args below meth c (vx_MQ below (zQc g0 d (zEq (some (.int (znode V ne (-1) 0 4 (zsib e9 4)))) G)) (zXc g0 d (zNo)) args s 0 0 (zA g0)) 0 0 (G) [(4, .int (nI i)), (3, .int (nI (e9 / 2 ^ i))), (0, .ref (B 0)), (1, .int (nI e9)), (2, .int (nI 4))] [] 5 := by
    intro n
    induction n with
    | zero => intro i h0; exact absurd h0 (Nat.not_lt_zero _)
    | succ n ih_5 =>
      intro i hm_5 hi
      have hle9 : e9 / 2 ^ i ≤ e9 := Nat.div_le_self _ _
      refine z_iload 0 d_Mo_proofNow_5 rfl ?_
      refine z_iload_n 4 d_Mo_proofNow_7 rfl rfl ?_
      refine z_icmp_ge 21 d_Mo_proofNow_8 (by decide) (fun c_8 => ?_) (fun c_8 => ?_)
      · skip
        obtain rfl : i = 4 := by
          have := (nI_leI (a := 4) (b := i) (by decide) (by omega)).mp c_8
          omega
        refine z_aload_n 2 d_Mo_proofNow_21 rfl rfl ?_
        refine z_iload_n 4 d_Mo_proofNow_22 rfl rfl ?_
        refine z_iload_n 1 d_Mo_proofNow_23 rfl rfl ?_
        refine z_iconst (v := 2) d_Mo_proofNow_24 (by decide) ?_
        refine z_irem d_Mo_proofNow_25 (by decide) ?_
        refine z_topv (v := nI (e9 / 2 ^ 4 % 2)) (by rw [show (2 : Int32) = nI 2 from rfl]; exact pk_rem (by omega) (by decide) (by decide)) ?_
        refine z_if_ne 35 d_Mo_proofNow_26 (by decide) (fun c_26 => ?_) (fun c_26 => ?_)
        · skip
          have hz : ¬ e9 / 2 ^ 4 % 2 = 0 := fun q => c_26 ((nI_z (by omega)).mpr q)
          have hk1 : 1 ≤ e9 / 2 ^ 4 := Nat.pos_of_ne_zero fun q => hz (by rw [q])
          refine z_iload_n 1 d_Mo_proofNow_35 rfl rfl ?_
          refine z_iconst (v := 1) d_Mo_proofNow_36 (by decide) ?_
          refine z_isub d_Mo_proofNow_37 ?_
          refine z_topv (v := nI (e9 / 2 ^ 4 - 1)) (nI_s1 hk1 (by omega)) ?_
          refine z_iconst (v := (-1)) d_Mo_proofNow_38 (by decide) ?_
          refine z_iconst (v := 0) d_Mo_proofNow_39 (by decide) ?_
          refine z_callV0 ((m_Mo_node_4E hs0 hst hM (by omega) (-1) 0)) ym_Mo_node qM_Mo_218 qI_Mo_node qV_Mo_Mo_node zc_Mo hM.mo d_Mo_proofNow_40 rfl (Nat.le_of_ble_eq_true rfl) ⟨Nat.zero_le _, Nat.zero_le _⟩ ⟨Nat.le_of_ble_eq_true rfl, Nat.le_of_ble_eq_true rfl⟩ ?_
          exact z_iret rfl (⟨by unfold zsib; first | rw [if_pos hz] | rw [if_neg hz], rfl⟩) (by first | decide | omega) (by first | decide | omega) d_Mo_proofNow_43
        · skip
          have hz : e9 / 2 ^ 4 % 2 = 0 := (nI_z (by omega)).mp c_26
          refine z_iload_n 1 d_Mo_proofNow_29 rfl rfl ?_
          refine z_iconst (v := 1) d_Mo_proofNow_30 (by decide) ?_
          refine z_iadd d_Mo_proofNow_31 ?_
          refine z_topv (v := nI (e9 / 2 ^ 4 + 1)) (nI_1 _) ?_
          refine z_goto 38 d_Mo_proofNow_32 (by decide) ?_
          refine z_iconst (v := (-1)) d_Mo_proofNow_38 (by decide) ?_
          refine z_iconst (v := 0) d_Mo_proofNow_39 (by decide) ?_
          refine z_callV0 ((m_Mo_node_4E hs0 hst hM (by omega) (-1) 0)) ym_Mo_node qM_Mo_218 qI_Mo_node qV_Mo_Mo_node zc_Mo hM.mo d_Mo_proofNow_40 rfl (Nat.le_of_ble_eq_true rfl) ⟨Nat.zero_le _, Nat.zero_le _⟩ ⟨Nat.le_of_ble_eq_true rfl, Nat.le_of_ble_eq_true rfl⟩ ?_
          exact z_iret rfl (⟨by unfold zsib; first | rw [if_pos hz] | rw [if_neg hz], rfl⟩) (by first | decide | omega) (by first | decide | omega) d_Mo_proofNow_43
      · skip
        have hi6 : i < 4 := Nat.lt_of_not_le fun q => c_8 (nI_le (a := 4) (b := i) q (by omega))
        refine z_iload_n 1 d_Mo_proofNow_11 rfl rfl ?_
        refine z_iconst (v := 2) d_Mo_proofNow_12 (by decide) ?_
        refine z_idiv d_Mo_proofNow_13 (by decide) ?_
        refine z_topv (v := nI (e9 / 2 ^ (i + 1))) (by rw [show (2 : Int32) = nI 2 from rfl, ← ndiv2 e9 (by omega) i (by omega)]; exact pk_div (by omega) (by decide) (by decide)) ?_
        refine z_istore_n (L' := [(3, _), (4, _), (0, _), (1, _), (2, _)]) d_Mo_proofNow_14 rfl (by decide) rfl ?_
        refine z_iinc (v := nI (i + 1)) (L' := [(4, _), (3, _), (0, _), (1, _), (2, _)]) 1 d_Mo_proofNow_15 rfl (nI_1 i) (by decide) rfl ?_
        refine z_goto 5 d_Mo_proofNow_18 (by decide) ?_
        exact ih_5 (i + 1) (by omega) (by omega)
  exact key_5 5 0 (by omega) (by omega)
set_option maxHeartbeats 4000000 in
set_option maxRecDepth 100000 in
theorem m_Mo_proofNow_5E {g0 : State} {d : zD} {l : Launch} {a0 : Array Value} (hs0 : zS0 d a0 g0) (hst : l.stackTraces = false) {G : zG} {B : Nat → Nat} {V : Nat → Nat → Int32} {nk ns ne ec : Nat} (hM : zM d B V nk ns ne ec G) {e9 : Nat} (he : e9 < 64) : zMet g0 d l y_Mo_proofNow c_Mo_proofNow 5 ((Option.some Jvm.ClassFile.FieldType.int)) 20 0 0 [.ref (B 0), .int (nI e9), .int (nI 5)] (G) (zEq (some (.int (znode V ne (-1) 0 5 (zsib e9 5)))) G) (zNo) := by
  have hnk : nk ≤ 8 := hM.2.1
  have hns : ns ≤ 6 := hM.2.2.1
  have hne : ne ≤ 64 := hM.2.2.2.1
  have hp2 : 2 ^ nk ≤ 256 := Nat.pow_le_pow_right (n := 2) (by decide) hnk
  refine z_entry hs0 hst (by decide) (Nat.le_of_ble_eq_true rfl) (fun p e s m args below meth c => ?_)
  refine z_iload_n 1 d_Mo_proofNow_0 rfl rfl ?_
  refine z_topv (v := nI (e9 / 2 ^ 0)) (by rw [Nat.pow_zero, Nat.div_one]) ?_
  refine z_istore_n (L' := [(3, _), (0, _), (1, _), (2, _)]) d_Mo_proofNow_1 rfl (by decide) rfl ?_
  refine z_iconst (v := (nI 0)) d_Mo_proofNow_2 (by decide) ?_
  refine z_istore (L' := [(4, _), (3, _), (0, _), (1, _), (2, _)]) d_Mo_proofNow_3 (by decide) rfl ?_
  have key_5 : ∀ (n : Nat) (i : Nat), 5 - i < n → (i ≤ 5) → Z g0 d y_Mo_proofNow c_Mo_proofNow 5 ((Option.some Jvm.ClassFile.FieldType.int)) [] p l e (zR 20 0 0) s m args below meth c (vx_MQ below (zQc g0 d (zEq (some (.int (znode V ne (-1) 0 5 (zsib e9 5)))) G)) (zXc g0 d (zNo)) args s 0 0 (zA g0)) 0 0 (G) [(4, .int (nI i)), (3, .int (nI (e9 / 2 ^ i))), (0, .ref (B 0)), (1, .int (nI e9)), (2, .int (nI 5))] [] 5 := by
    intro n
    induction n with
    | zero => intro i h0; exact absurd h0 (Nat.not_lt_zero _)
    | succ n ih_5 =>
      intro i hm_5 hi
      have hle9 : e9 / 2 ^ i ≤ e9 := Nat.div_le_self _ _
      refine z_iload 0 d_Mo_proofNow_5 rfl ?_
      refine z_iload_n 4 d_Mo_proofNow_7 rfl rfl ?_
      refine z_icmp_ge 21 d_Mo_proofNow_8 (by decide) (fun c_8 => ?_) (fun c_8 => ?_)
      · skip
        obtain rfl : i = 5 := by
          have := (nI_leI (a := 5) (b := i) (by decide) (by omega)).mp c_8
          omega
        refine z_aload_n 2 d_Mo_proofNow_21 rfl rfl ?_
        refine z_iload_n 4 d_Mo_proofNow_22 rfl rfl ?_
        refine z_iload_n 1 d_Mo_proofNow_23 rfl rfl ?_
        refine z_iconst (v := 2) d_Mo_proofNow_24 (by decide) ?_
        refine z_irem d_Mo_proofNow_25 (by decide) ?_
        refine z_topv (v := nI (e9 / 2 ^ 5 % 2)) (by rw [show (2 : Int32) = nI 2 from rfl]; exact pk_rem (by omega) (by decide) (by decide)) ?_
        refine z_if_ne 35 d_Mo_proofNow_26 (by decide) (fun c_26 => ?_) (fun c_26 => ?_)
        · skip
          have hz : ¬ e9 / 2 ^ 5 % 2 = 0 := fun q => c_26 ((nI_z (by omega)).mpr q)
          have hk1 : 1 ≤ e9 / 2 ^ 5 := Nat.pos_of_ne_zero fun q => hz (by rw [q])
          refine z_iload_n 1 d_Mo_proofNow_35 rfl rfl ?_
          refine z_iconst (v := 1) d_Mo_proofNow_36 (by decide) ?_
          refine z_isub d_Mo_proofNow_37 ?_
          refine z_topv (v := nI (e9 / 2 ^ 5 - 1)) (nI_s1 hk1 (by omega)) ?_
          refine z_iconst (v := (-1)) d_Mo_proofNow_38 (by decide) ?_
          refine z_iconst (v := 0) d_Mo_proofNow_39 (by decide) ?_
          refine z_callV0 ((m_Mo_node_5E hs0 hst hM (by omega) (-1) 0)) ym_Mo_node qM_Mo_218 qI_Mo_node qV_Mo_Mo_node zc_Mo hM.mo d_Mo_proofNow_40 rfl (Nat.le_of_ble_eq_true rfl) ⟨Nat.zero_le _, Nat.zero_le _⟩ ⟨Nat.le_of_ble_eq_true rfl, Nat.le_of_ble_eq_true rfl⟩ ?_
          exact z_iret rfl (⟨by unfold zsib; first | rw [if_pos hz] | rw [if_neg hz], rfl⟩) (by first | decide | omega) (by first | decide | omega) d_Mo_proofNow_43
        · skip
          have hz : e9 / 2 ^ 5 % 2 = 0 := (nI_z (by omega)).mp c_26
          refine z_iload_n 1 d_Mo_proofNow_29 rfl rfl ?_
          refine z_iconst (v := 1) d_Mo_proofNow_30 (by decide) ?_
          refine z_iadd d_Mo_proofNow_31 ?_
          refine z_topv (v := nI (e9 / 2 ^ 5 + 1)) (nI_1 _) ?_
          refine z_goto 38 d_Mo_proofNow_32 (by decide) ?_
          refine z_iconst (v := (-1)) d_Mo_proofNow_38 (by decide) ?_
          refine z_iconst (v := 0) d_Mo_proofNow_39 (by decide) ?_
          refine z_callV0 ((m_Mo_node_5E hs0 hst hM (by omega) (-1) 0)) ym_Mo_node qM_Mo_218 qI_Mo_node qV_Mo_Mo_node zc_Mo hM.mo d_Mo_proofNow_40 rfl (Nat.le_of_ble_eq_true rfl) ⟨Nat.zero_le _, Nat.zero_le _⟩ ⟨Nat.le_of_ble_eq_true rfl, Nat.le_of_ble_eq_true rfl⟩ ?_
          exact z_iret rfl (⟨by unfold zsib; first | rw [if_pos hz] | rw [if_neg hz], rfl⟩) (by first | decide | omega) (by first | decide | omega) d_Mo_proofNow_43
      · skip
        have hi6 : i < 5 := Nat.lt_of_not_le fun q => c_8 (nI_le (a := 5) (b := i) q (by omega))
        refine z_iload_n 1 d_Mo_proofNow_11 rfl rfl ?_
        refine z_iconst (v := 2) d_Mo_proofNow_12 (by decide) ?_
        refine z_idiv d_Mo_proofNow_13 (by decide) ?_
        refine z_topv (v := nI (e9 / 2 ^ (i + 1))) (by rw [show (2 : Int32) = nI 2 from rfl, ← ndiv2 e9 (by omega) i (by omega)]; exact pk_div (by omega) (by decide) (by decide)) ?_
        refine z_istore_n (L' := [(3, _), (4, _), (0, _), (1, _), (2, _)]) d_Mo_proofNow_14 rfl (by decide) rfl ?_
        refine z_iinc (v := nI (i + 1)) (L' := [(4, _), (3, _), (0, _), (1, _), (2, _)]) 1 d_Mo_proofNow_15 rfl (nI_1 i) (by decide) rfl ?_
        refine z_goto 5 d_Mo_proofNow_18 (by decide) ?_
        exact ih_5 (i + 1) (by omega) (by omega)
  exact key_5 6 0 (by omega) (by omega)

theorem m_Mo_proofNowE {g0 : State} {d : zD} {l : Launch} {a0 : Array Value} (hs0 : zS0 d a0 g0) (hst : l.stackTraces = false) {G : zG} {B : Nat → Nat} {V : Nat → Nat → Int32} {nk ns ne ec : Nat} (hM : zM d B V nk ns ne ec G) {e9 r : Nat} (he : e9 < 64) (hr : r ≤ 5) : zMet g0 d l y_Mo_proofNow c_Mo_proofNow 5 (Option.some Jvm.ClassFile.FieldType.int) 20 0 0 [.ref (B 0), .int (nI e9), .int (nI r)] G (zEq (some (.int (znode V ne (-1) 0 r (zsib e9 r)))) G) zNo := by
  have : r = 0 ∨ r = 1 ∨ r = 2 ∨ r = 3 ∨ r = 4 ∨ r = 5 := by omega
  rcases this with rfl | rfl | rfl | rfl | rfl | rfl
  · exact m_Mo_proofNow_0E hs0 hst hM he
  · exact m_Mo_proofNow_1E hs0 hst hM he
  · exact m_Mo_proofNow_2E hs0 hst hM he
  · exact m_Mo_proofNow_3E hs0 hst hM he
  · exact m_Mo_proofNow_4E hs0 hst hM he
  · exact m_Mo_proofNow_5E hs0 hst hM he

set_option maxHeartbeats 4000000 in
set_option maxRecDepth 100000 in
theorem m_Mo_proofE {g0 : State} {d : zD} {l : Launch} {a0 : Array Value} (hs0 : zS0 d a0 g0) (hst : l.stackTraces = false) {G : zG} {B : Nat → Nat} {V : Nat → Nat → Int32} {nk ns ne ec : Nat} (hM : zM d B V nk ns ne ec G) (x w : Int32) : zMet g0 d l y_Mo_proof c_Mo_proof 3 ((Option.some Jvm.ClassFile.FieldType.int)) 22 0 0 [.ref (B 0), .int x, .int w] (G) (mAq d B nk ns ne ec V G (rPr ne x w)) (zNo) := by
  have hnk : nk ≤ 8 := hM.2.1
  have hns : ns ≤ 6 := hM.2.2.1
  have hne : ne ≤ 64 := hM.2.2.2.1
  have hp2 : 2 ^ nk ≤ 256 := Nat.pow_le_pow_right (n := 2) (by decide) hnk
  refine z_entry hs0 hst (by decide) (Nat.le_of_ble_eq_true rfl) (fun p e s m args below meth c => ?_)
  refine z_aload_n 0 d_Mo_proof_0 rfl rfl ?_
  refine z_iconst (v := 0) d_Mo_proof_1 (by decide) ?_
  refine z_put zc_Mo 0 (by decide) qF_Mo_36 hM.mo rfl rfl rfl (Nat.le_of_ble_eq_true rfl) d_Mo_proof_2 ?_
  obtain ⟨V1, hM1, hK1, hF1, hT1⟩ := hM.putT 0
  refine z_aload_n 0 d_Mo_proof_5 rfl rfl ?_
  refine z_iload_n 1 d_Mo_proof_6 rfl rfl ?_
  refine z_callV0 (m_Mo_isEntry hs0 hst hM1 x) ym_Mo_isEntry qM_Mo_228 qI_Mo_isEntry qV_Mo_Mo_isEntry zc_Mo hM1.mo d_Mo_proof_7 rfl (Nat.le_of_ble_eq_true rfl) ⟨Nat.zero_le _, Nat.zero_le _⟩ ⟨Nat.le_of_ble_eq_true rfl, Nat.le_of_ble_eq_true rfl⟩ ?_
  refine z_if_eq 22 d_Mo_proof_10 (by decide) (fun c_10 => ?_) (fun c_10 => ?_)
  · skip
    refine z_aload_n 0 d_Mo_proof_22 rfl rfl ?_
    refine z_iconst (v := 1) d_Mo_proof_23 (by decide) ?_
    refine z_callV0 (m_Mo_no hs0 hst hM1.mo 1) ym_Mo_no qM_Mo_119 qI_Mo_no qV_Mo_Mo_no zc_Mo hM1.mo d_Mo_proof_24 rfl (Nat.le_of_ble_eq_true rfl) ⟨Nat.zero_le _, Nat.zero_le _⟩ ⟨Nat.le_of_ble_eq_true rfl, Nat.le_of_ble_eq_true rfl⟩ ?_
    obtain ⟨V9, hM9, hK9, hF9, hT9⟩ := hM1.putT 1
    exact z_iret rfl (by first | exact ⟨_, V9, rfl, Or.inl ⟨Or.inl ((zb_0 _).mp c_10), hT9⟩, hM9, hK1.tr hK9, hF1.tr hF9⟩ | exact ⟨_, V9, rfl, Or.inl ⟨Or.inr ((zb_0 _).mp c_19), hT9⟩, hM9, hK1.tr hK9, hF1.tr hF9⟩) (by first | decide | omega) (by first | decide | omega) d_Mo_proof_27
  · skip
    obtain ⟨ei, hei, rfl⟩ := zin_n ((zb_n0 _).mp c_10) (by omega)
    refine z_iload_n 2 d_Mo_proof_13 rfl rfl ?_
    refine z_iconst (v := 0) d_Mo_proof_14 (by decide) ?_
    refine z_iconst (v := (nI 5)) d_Mo_proof_15 (by decide) ?_
    refine z_callS0 (m_Mo_in hs0 hst w 0 _) ym_Mo_in qM_Mo_115 qS_Mo_in d_Mo_proof_16 rfl (Nat.le_of_ble_eq_true rfl) ⟨Nat.zero_le _, Nat.zero_le _⟩ ⟨Nat.le_of_ble_eq_true rfl, Nat.le_of_ble_eq_true rfl⟩ ?_
    refine z_if_ne 28 d_Mo_proof_19 (by decide) (fun c_19 => ?_) (fun c_19 => ?_)
    · skip
      obtain ⟨wi, hwi, rfl⟩ := zin_l ((zb_n0 _).mp c_19) (by decide)
      refine z_aload_n 0 d_Mo_proof_28 rfl rfl ?_
      refine z_iload_n 1 d_Mo_proof_29 rfl rfl ?_
      refine z_iload_n 2 d_Mo_proof_30 rfl rfl ?_
      refine z_callV0 ((m_Mo_proofNowE hs0 hst hM1 (show ei < 64 by omega) (show wi ≤ 5 by omega))) ym_Mo_proofNow qM_Mo_231 qI_Mo_proofNow qV_Mo_Mo_proofNow zc_Mo hM1.mo d_Mo_proof_31 rfl (Nat.le_of_ble_eq_true rfl) ⟨Nat.zero_le _, Nat.zero_le _⟩ ⟨Nat.le_of_ble_eq_true rfl, Nat.le_of_ble_eq_true rfl⟩ ?_
      exact z_iret rfl (⟨_, V1, rfl, Or.inr ⟨ei, hei, rfl, wi, hwi, rfl, hT1, rfl⟩, hM1, hK1, hF1⟩) (by first | decide | omega) (by first | decide | omega) d_Mo_proof_34
    · skip
      refine z_aload_n 0 d_Mo_proof_22 rfl rfl ?_
      refine z_iconst (v := 1) d_Mo_proof_23 (by decide) ?_
      refine z_callV0 (m_Mo_no hs0 hst hM1.mo 1) ym_Mo_no qM_Mo_119 qI_Mo_no qV_Mo_Mo_no zc_Mo hM1.mo d_Mo_proof_24 rfl (Nat.le_of_ble_eq_true rfl) ⟨Nat.zero_le _, Nat.zero_le _⟩ ⟨Nat.le_of_ble_eq_true rfl, Nat.le_of_ble_eq_true rfl⟩ ?_
      obtain ⟨V9, hM9, hK9, hF9, hT9⟩ := hM1.putT 1
      exact z_iret rfl (by first | exact ⟨_, V9, rfl, Or.inl ⟨Or.inl ((zb_0 _).mp c_10), hT9⟩, hM9, hK1.tr hK9, hF1.tr hF9⟩ | exact ⟨_, V9, rfl, Or.inl ⟨Or.inr ((zb_0 _).mp c_19), hT9⟩, hM9, hK1.tr hK9, hF1.tr hF9⟩) (by first | decide | omega) (by first | decide | omega) d_Mo_proof_27
