
/-- a number of the tree's row r, as the reference reckons it; one leaf may be told otherwise -/
def znode (W : Nat → Nat → Int32) (ne : Nat) (o lf : Int32) : Nat → Nat → Int32
  | 0, k => if nI k = o then lf else if k < ne then W (500 + k) 3 else 0
  | r + 1, k => zr9 (31 * znode W ne o lf r (2 * k) + 17 * znode W ne o lf r (2 * k + 1) + 5)

def mBkA (V : Nat → Nat → Int32) (nk ns ne w : Nat) : Int32 := upd (upd (upd (upd (upd (upd (upd (upd (upd (upd (upd (upd (fun _ => 0) 0 (nI nk)) 1 (nI ns)) 2 (V 0 2)) 3 (V 0 1)) 4 (nI ne)) 5 (if nI w = 5 then znode V ne (-1) 0 6 0 else 0)) 6 (V 0 3)) 7 (V 0 4)) 8 (V 0 5)) 9 (nI (zcnt (fun k => decide (V (100 + k) 4 ≠ 0)) nk))) 10 (zsum (fun i => nI (zpop 9 (zsetN (zgd (V (300 + i)) (V (400 + i)) (V (200 + i) 3)) 8))) ns)) 11 (zsum (fun i => nI (zpop 9 (zsetN (zst (V (300 + i)) (V (400 + i)) (V (200 + i) 3)) 8))) ns) w
def rBk (nk ns ne : Nat) (w t b : Int32) (W : Nat → Nat → Int32) : Prop := (zin w 0 11 = false ∧ t = 1) ∨ (∃ q, q < 12 ∧ w = nI q ∧ t = 0 ∧ b = mBkA W nk ns ne q)

set_option maxHeartbeats 4000000 in
set_option maxRecDepth 100000 in
theorem m_Mo_node_0E {g0 : State} {d : zD} {l : Launch} {a0 : Array Value} (hs0 : zS0 d a0 g0) (hst : l.stackTraces = false) {G : zG} {B : Nat → Nat} {V : Nat → Nat → Int32} {nk ns ne ec : Nat} (hM : zM d B V nk ns ne ec G) {kk : Nat} (hkk : kk < 1048576) (o lf : Int32) : zMet g0 d l y_Mo_node c_Mo_node 5 ((Option.some Jvm.ClassFile.FieldType.int)) 12 0 0 [.ref (B 0), .int (nI 0), .int (nI kk), .int o, .int lf] (G) (zEq (some (.int (znode V ne o lf 0 kk))) G) (zNo) := by
  have hnk : nk ≤ 8 := hM.2.1
  have hns : ns ≤ 6 := hM.2.2.1
  have hne : ne ≤ 64 := hM.2.2.2.1
  have hp2 : 2 ^ nk ≤ 256 := Nat.pow_le_pow_right (n := 2) (by decide) hnk
  refine z_entry hs0 hst (by decide) (Nat.le_of_ble_eq_true rfl) (fun p e s m args below meth c => ?_)
  refine z_iload_n 1 d_Mo_node_0 rfl rfl ?_
  refine z_if_ne 47 d_Mo_node_1 (by decide) (fun c_1 => absurd nI_0 c_1) (fun c_1 => ?_)
  refine z_iload_n 2 d_Mo_node_4 rfl rfl ?_
  refine z_iload_n 3 d_Mo_node_5 rfl rfl ?_
  refine z_icmp_ne 14 d_Mo_node_6 (by decide) (fun c_6 => ?_) (fun c_6 => ?_)
  · skip
    refine z_iload_n 2 d_Mo_node_14 rfl rfl ?_
    refine z_aload_n 0 d_Mo_node_15 rfl rfl ?_
    refine z_get zc_Mo 8 (by decide) qF_Mo_23 hM.mo rfl d_Mo_node_16 ?_
    refine z_callF0 (m_AL_size hs0 hst hM.el) ym_AL_size zF_AL_size qM_Mo_94 zc_AL hM.el d_Mo_node_19 rfl (Nat.le_of_ble_eq_true rfl) ⟨Nat.zero_le _, Nat.zero_le _⟩ ⟨Nat.le_of_ble_eq_true rfl, Nat.le_of_ble_eq_true rfl⟩ ?_
    refine z_icmp_ge 45 d_Mo_node_24 (by decide) (fun c_24 => ?_) (fun c_24 => ?_)
    · skip
      have hn6 : ¬ kk < ne := Nat.not_lt.mpr ((nI_leI (a := ne) (b := kk) (by omega) (by omega)).mp c_24)
      refine z_iconst (v := 0) d_Mo_node_45 (by decide) ?_
      exact z_iret rfl (⟨by show _ = some (Value.int (if nI kk = o then lf else if kk < ne then V (500 + kk) 3 else 0)); first | rw [if_pos c_6] | rw [if_neg c_6, if_pos he6] | rw [if_neg c_6, if_neg hn6], rfl⟩) (by first | decide | omega) (by first | decide | omega) d_Mo_node_46
    · skip
      have he6 : kk < ne := Nat.lt_of_not_le fun q => c_24 (nI_le q (by omega))
      refine z_aload_n 0 d_Mo_node_27 rfl rfl ?_
      refine z_get zc_Mo 8 (by decide) qF_Mo_23 hM.mo rfl d_Mo_node_28 ?_
      refine z_iload_n 2 d_Mo_node_31 rfl rfl ?_
      refine z_callF0 (m_AL_get hs0 hst (hM.eA he6) he6 (if_pos he6)) ym_AL_get zF_AL_get qM_Mo_51 zc_AL (hM.eA he6).1 d_Mo_node_32 rfl (Nat.le_of_ble_eq_true rfl) ⟨Nat.zero_le _, Nat.zero_le _⟩ ⟨Nat.le_of_ble_eq_true rfl, Nat.le_of_ble_eq_true rfl⟩ ?_
      refine z_castI qK_Mo_217 (hM.en he6) d_Mo_node_37 ?_
      refine z_iconst (v := (nI 3)) d_Mo_node_40 (by decide) ?_
      refine z_ialdN (hM.en he6) (show 3 < 4 by decide) (by decide) d_Mo_node_41 ?_
      refine z_goto 46 d_Mo_node_42 (by decide) ?_
      exact z_iret rfl (⟨by show _ = some (Value.int (if nI kk = o then lf else if kk < ne then V (500 + kk) 3 else 0)); first | rw [if_pos c_6] | rw [if_neg c_6, if_pos he6] | rw [if_neg c_6, if_neg hn6], rfl⟩) (by first | decide | omega) (by first | decide | omega) d_Mo_node_46
  · skip
    refine z_iload 4 d_Mo_node_9 rfl ?_
    refine z_goto 46 d_Mo_node_11 (by decide) ?_
    exact z_iret rfl (⟨by show _ = some (Value.int (if nI kk = o then lf else if kk < ne then V (500 + kk) 3 else 0)); first | rw [if_pos c_6] | rw [if_neg c_6, if_pos he6] | rw [if_neg c_6, if_neg hn6], rfl⟩) (by first | decide | omega) (by first | decide | omega) d_Mo_node_46
set_option maxHeartbeats 4000000 in
set_option maxRecDepth 100000 in
theorem m_Mo_node_1E {g0 : State} {d : zD} {l : Launch} {a0 : Array Value} (hs0 : zS0 d a0 g0) (hst : l.stackTraces = false) {G : zG} {B : Nat → Nat} {V : Nat → Nat → Int32} {nk ns ne ec : Nat} (hM : zM d B V nk ns ne ec G) {kk : Nat} (hkk : kk < 524288) (o lf : Int32) : zMet g0 d l y_Mo_node c_Mo_node 5 ((Option.some Jvm.ClassFile.FieldType.int)) 13 0 0 [.ref (B 0), .int (nI 1), .int (nI kk), .int o, .int lf] (G) (zEq (some (.int (znode V ne o lf 1 kk))) G) (zNo) := by
  have hnk : nk ≤ 8 := hM.2.1
  have hns : ns ≤ 6 := hM.2.2.1
  have hne : ne ≤ 64 := hM.2.2.2.1
  have hp2 : 2 ^ nk ≤ 256 := Nat.pow_le_pow_right (n := 2) (by decide) hnk
  refine z_entry hs0 hst (by decide) (Nat.le_of_ble_eq_true rfl) (fun p e s m args below meth c => ?_)
  refine z_iload_n 1 d_Mo_node_0 rfl rfl ?_
  refine z_if_ne 47 d_Mo_node_1 (by decide) (fun c_1 => ?_) (fun c_1 => absurd c_1 (by decide))
  refine z_bipush (v := 31) d_Mo_node_47 (by decide) ?_
  refine z_aload_n 0 d_Mo_node_49 rfl rfl ?_
  refine z_iload_n 1 d_Mo_node_50 rfl rfl ?_
  refine z_iconst (v := 1) d_Mo_node_51 (by decide) ?_
  refine z_isub d_Mo_node_52 ?_
  refine z_topv (v := nI 0) (by decide) ?_
  refine z_iconst (v := (nI 2)) d_Mo_node_53 (by decide) ?_
  refine z_iload_n 2 d_Mo_node_54 rfl rfl ?_
  refine z_imul d_Mo_node_55 ?_
  refine z_topv (v := nI (2 * kk)) (pk_mul 2 kk) ?_
  refine z_iload_n 3 d_Mo_node_56 rfl rfl ?_
  refine z_iload 4 d_Mo_node_57 rfl ?_
  refine z_callV0 ((m_Mo_node_0E hs0 hst hM (kk := 2 * kk) (by omega) o lf)) ym_Mo_node qM_Mo_218 qI_Mo_node qV_Mo_Mo_node zc_Mo hM.mo d_Mo_node_59 rfl (Nat.le_of_ble_eq_true rfl) ⟨Nat.zero_le _, Nat.zero_le _⟩ ⟨Nat.le_of_ble_eq_true rfl, Nat.le_of_ble_eq_true rfl⟩ ?_
  refine z_imul d_Mo_node_62 ?_
  refine z_bipush (v := 17) d_Mo_node_63 (by decide) ?_
  refine z_aload_n 0 d_Mo_node_65 rfl rfl ?_
  refine z_iload_n 1 d_Mo_node_66 rfl rfl ?_
  refine z_iconst (v := 1) d_Mo_node_67 (by decide) ?_
  refine z_isub d_Mo_node_68 ?_
  refine z_topv (v := nI 0) (by decide) ?_
  refine z_iconst (v := (nI 2)) d_Mo_node_69 (by decide) ?_
  refine z_iload_n 2 d_Mo_node_70 rfl rfl ?_
  refine z_imul d_Mo_node_71 ?_
  refine z_topv (v := nI (2 * kk)) (pk_mul 2 kk) ?_
  refine z_iconst (v := 1) d_Mo_node_72 (by decide) ?_
  refine z_iadd d_Mo_node_73 ?_
  refine z_topv (v := nI (2 * kk + 1)) (nI_1 _) ?_
  refine z_iload_n 3 d_Mo_node_74 rfl rfl ?_
  refine z_iload 4 d_Mo_node_75 rfl ?_
  refine z_callV0 ((m_Mo_node_0E hs0 hst hM (kk := 2 * kk + 1) (by omega) o lf)) ym_Mo_node qM_Mo_218 qI_Mo_node qV_Mo_Mo_node zc_Mo hM.mo d_Mo_node_77 rfl (Nat.le_of_ble_eq_true rfl) ⟨Nat.zero_le _, Nat.zero_le _⟩ ⟨Nat.le_of_ble_eq_true rfl, Nat.le_of_ble_eq_true rfl⟩ ?_
  refine z_imul d_Mo_node_80 ?_
  refine z_iadd d_Mo_node_81 ?_
  refine z_iconst (v := 5) d_Mo_node_82 (by decide) ?_
  refine z_iadd d_Mo_node_83 ?_
  refine z_sipush (v := 9973) d_Mo_node_84 (by decide) ?_
  refine z_irem d_Mo_node_87 (by decide) ?_
  exact z_iret rfl (⟨rfl, rfl⟩) (by first | decide | omega) (by first | decide | omega) d_Mo_node_88
set_option maxHeartbeats 4000000 in
set_option maxRecDepth 100000 in
theorem m_Mo_node_2E {g0 : State} {d : zD} {l : Launch} {a0 : Array Value} (hs0 : zS0 d a0 g0) (hst : l.stackTraces = false) {G : zG} {B : Nat → Nat} {V : Nat → Nat → Int32} {nk ns ne ec : Nat} (hM : zM d B V nk ns ne ec G) {kk : Nat} (hkk : kk < 262144) (o lf : Int32) : zMet g0 d l y_Mo_node c_Mo_node 5 ((Option.some Jvm.ClassFile.FieldType.int)) 14 0 0 [.ref (B 0), .int (nI 2), .int (nI kk), .int o, .int lf] (G) (zEq (some (.int (znode V ne o lf 2 kk))) G) (zNo) := by
  have hnk : nk ≤ 8 := hM.2.1
  have hns : ns ≤ 6 := hM.2.2.1
  have hne : ne ≤ 64 := hM.2.2.2.1
  have hp2 : 2 ^ nk ≤ 256 := Nat.pow_le_pow_right (n := 2) (by decide) hnk
  refine z_entry hs0 hst (by decide) (Nat.le_of_ble_eq_true rfl) (fun p e s m args below meth c => ?_)
  refine z_iload_n 1 d_Mo_node_0 rfl rfl ?_
  refine z_if_ne 47 d_Mo_node_1 (by decide) (fun c_1 => ?_) (fun c_1 => absurd c_1 (by decide))
  refine z_bipush (v := 31) d_Mo_node_47 (by decide) ?_
  refine z_aload_n 0 d_Mo_node_49 rfl rfl ?_
  refine z_iload_n 1 d_Mo_node_50 rfl rfl ?_
  refine z_iconst (v := 1) d_Mo_node_51 (by decide) ?_
  refine z_isub d_Mo_node_52 ?_
  refine z_topv (v := nI 1) (by decide) ?_
  refine z_iconst (v := (nI 2)) d_Mo_node_53 (by decide) ?_
  refine z_iload_n 2 d_Mo_node_54 rfl rfl ?_
  refine z_imul d_Mo_node_55 ?_
  refine z_topv (v := nI (2 * kk)) (pk_mul 2 kk) ?_
  refine z_iload_n 3 d_Mo_node_56 rfl rfl ?_
  refine z_iload 4 d_Mo_node_57 rfl ?_
  refine z_callV0 ((m_Mo_node_1E hs0 hst hM (kk := 2 * kk) (by omega) o lf)) ym_Mo_node qM_Mo_218 qI_Mo_node qV_Mo_Mo_node zc_Mo hM.mo d_Mo_node_59 rfl (Nat.le_of_ble_eq_true rfl) ⟨Nat.zero_le _, Nat.zero_le _⟩ ⟨Nat.le_of_ble_eq_true rfl, Nat.le_of_ble_eq_true rfl⟩ ?_
  refine z_imul d_Mo_node_62 ?_
  refine z_bipush (v := 17) d_Mo_node_63 (by decide) ?_
  refine z_aload_n 0 d_Mo_node_65 rfl rfl ?_
  refine z_iload_n 1 d_Mo_node_66 rfl rfl ?_
  refine z_iconst (v := 1) d_Mo_node_67 (by decide) ?_
  refine z_isub d_Mo_node_68 ?_
  refine z_topv (v := nI 1) (by decide) ?_
  refine z_iconst (v := (nI 2)) d_Mo_node_69 (by decide) ?_
  refine z_iload_n 2 d_Mo_node_70 rfl rfl ?_
  refine z_imul d_Mo_node_71 ?_
  refine z_topv (v := nI (2 * kk)) (pk_mul 2 kk) ?_
  refine z_iconst (v := 1) d_Mo_node_72 (by decide) ?_
  refine z_iadd d_Mo_node_73 ?_
  refine z_topv (v := nI (2 * kk + 1)) (nI_1 _) ?_
  refine z_iload_n 3 d_Mo_node_74 rfl rfl ?_
  refine z_iload 4 d_Mo_node_75 rfl ?_
  refine z_callV0 ((m_Mo_node_1E hs0 hst hM (kk := 2 * kk + 1) (by omega) o lf)) ym_Mo_node qM_Mo_218 qI_Mo_node qV_Mo_Mo_node zc_Mo hM.mo d_Mo_node_77 rfl (Nat.le_of_ble_eq_true rfl) ⟨Nat.zero_le _, Nat.zero_le _⟩ ⟨Nat.le_of_ble_eq_true rfl, Nat.le_of_ble_eq_true rfl⟩ ?_
  refine z_imul d_Mo_node_80 ?_
  refine z_iadd d_Mo_node_81 ?_
  refine z_iconst (v := 5) d_Mo_node_82 (by decide) ?_
  refine z_iadd d_Mo_node_83 ?_
  refine z_sipush (v := 9973) d_Mo_node_84 (by decide) ?_
  refine z_irem d_Mo_node_87 (by decide) ?_
  exact z_iret rfl (⟨rfl, rfl⟩) (by first | decide | omega) (by first | decide | omega) d_Mo_node_88
set_option maxHeartbeats 4000000 in
set_option maxRecDepth 100000 in
theorem m_Mo_node_3E {g0 : State} {d : zD} {l : Launch} {a0 : Array Value} (hs0 : zS0 d a0 g0) (hst : l.stackTraces = false) {G : zG} {B : Nat → Nat} {V : Nat → Nat → Int32} {nk ns ne ec : Nat} (hM : zM d B V nk ns ne ec G) {kk : Nat} (hkk : kk < 131072) (o lf : Int32) : zMet g0 d l y_Mo_node c_Mo_node 5 ((Option.some Jvm.ClassFile.FieldType.int)) 15 0 0 [.ref (B 0), .int (nI 3), .int (nI kk), .int o, .int lf] (G) (zEq (some (.int (znode V ne o lf 3 kk))) G) (zNo) := by
  have hnk : nk ≤ 8 := hM.2.1
  have hns : ns ≤ 6 := hM.2.2.1
  have hne : ne ≤ 64 := hM.2.2.2.1
  have hp2 : 2 ^ nk ≤ 256 := Nat.pow_le_pow_right (n := 2) (by decide) hnk
  refine z_entry hs0 hst (by decide) (Nat.le_of_ble_eq_true rfl) (fun p e s m args below meth c => ?_)
  refine z_iload_n 1 d_Mo_node_0 rfl rfl ?_
  refine z_if_ne 47 d_Mo_node_1 (by decide) (fun c_1 => ?_) (fun c_1 => absurd c_1 (by decide))
  refine z_bipush (v := 31) d_Mo_node_47 (by decide) ?_
  refine z_aload_n 0 d_Mo_node_49 rfl rfl ?_
  refine z_iload_n 1 d_Mo_node_50 rfl rfl ?_
  refine z_iconst (v := 1) d_Mo_node_51 (by decide) ?_
  refine z_isub d_Mo_node_52 ?_
  refine z_topv (v := nI 2) (by decide) ?_
  refine z_iconst (v := (nI 2)) d_Mo_node_53 (by decide) ?_
  refine z_iload_n 2 d_Mo_node_54 rfl rfl ?_
  refine z_imul d_Mo_node_55 ?_
  refine z_topv (v := nI (2 * kk)) (pk_mul 2 kk) ?_
  refine z_iload_n 3 d_Mo_node_56 rfl rfl ?_
  refine z_iload 4 d_Mo_node_57 rfl ?_
  refine z_callV0 ((m_Mo_node_2E hs0 hst hM (kk := 2 * kk) (by omega) o lf)) ym_Mo_node qM_Mo_218 qI_Mo_node qV_Mo_Mo_node zc_Mo hM.mo d_Mo_node_59 rfl (Nat.le_of_ble_eq_true rfl) ⟨Nat.zero_le _, Nat.zero_le _⟩ ⟨Nat.le_of_ble_eq_true rfl, Nat.le_of_ble_eq_true rfl⟩ ?_
  refine z_imul d_Mo_node_62 ?_
  refine z_bipush (v := 17) d_Mo_node_63 (by decide) ?_
  refine z_aload_n 0 d_Mo_node_65 rfl rfl ?_
  refine z_iload_n 1 d_Mo_node_66 rfl rfl ?_
  refine z_iconst (v := 1) d_Mo_node_67 (by decide) ?_
  refine z_isub d_Mo_node_68 ?_
  refine z_topv (v := nI 2) (by decide) ?_
  refine z_iconst (v := (nI 2)) d_Mo_node_69 (by decide) ?_
  refine z_iload_n 2 d_Mo_node_70 rfl rfl ?_
  refine z_imul d_Mo_node_71 ?_
  refine z_topv (v := nI (2 * kk)) (pk_mul 2 kk) ?_
  refine z_iconst (v := 1) d_Mo_node_72 (by decide) ?_
  refine z_iadd d_Mo_node_73 ?_
  refine z_topv (v := nI (2 * kk + 1)) (nI_1 _) ?_
  refine z_iload_n 3 d_Mo_node_74 rfl rfl ?_
  refine z_iload 4 d_Mo_node_75 rfl ?_
  refine z_callV0 ((m_Mo_node_2E hs0 hst hM (kk := 2 * kk + 1) (by omega) o lf)) ym_Mo_node qM_Mo_218 qI_Mo_node qV_Mo_Mo_node zc_Mo hM.mo d_Mo_node_77 rfl (Nat.le_of_ble_eq_true rfl) ⟨Nat.zero_le _, Nat.zero_le _⟩ ⟨Nat.le_of_ble_eq_true rfl, Nat.le_of_ble_eq_true rfl⟩ ?_
  refine z_imul d_Mo_node_80 ?_
  refine z_iadd d_Mo_node_81 ?_
  refine z_iconst (v := 5) d_Mo_node_82 (by decide) ?_
  refine z_iadd d_Mo_node_83 ?_
  refine z_sipush (v := 9973) d_Mo_node_84 (by decide) ?_
  refine z_irem d_Mo_node_87 (by decide) ?_
  exact z_iret rfl (⟨rfl, rfl⟩) (by first | decide | omega) (by first | decide | omega) d_Mo_node_88
set_option maxHeartbeats 4000000 in
set_option maxRecDepth 100000 in
theorem m_Mo_node_4E {g0 : State} {d : zD} {l : Launch} {a0 : Array Value} (hs0 : zS0 d a0 g0) (hst : l.stackTraces = false) {G : zG} {B : Nat → Nat} {V : Nat → Nat → Int32} {nk ns ne ec : Nat} (hM : zM d B V nk ns ne ec G) {kk : Nat} (hkk : kk < 65536) (o lf : Int32) : zMet g0 d l y_Mo_node c_Mo_node 5 ((Option.some Jvm.ClassFile.FieldType.int)) 16 0 0 [.ref (B 0), .int (nI 4), .int (nI kk), .int o, .int lf] (G) (zEq (some (.int (znode V ne o lf 4 kk))) G) (zNo) := by
  have hnk : nk ≤ 8 := hM.2.1
  have hns : ns ≤ 6 := hM.2.2.1
  have hne : ne ≤ 64 := hM.2.2.2.1
  have hp2 : 2 ^ nk ≤ 256 := Nat.pow_le_pow_right (n := 2) (by decide) hnk
  refine z_entry hs0 hst (by decide) (Nat.le_of_ble_eq_true rfl) (fun p e s m args below meth c => ?_)
  refine z_iload_n 1 d_Mo_node_0 rfl rfl ?_
  refine z_if_ne 47 d_Mo_node_1 (by decide) (fun c_1 => ?_) (fun c_1 => absurd c_1 (by decide))
  refine z_bipush (v := 31) d_Mo_node_47 (by decide) ?_
  refine z_aload_n 0 d_Mo_node_49 rfl rfl ?_
  refine z_iload_n 1 d_Mo_node_50 rfl rfl ?_
  refine z_iconst (v := 1) d_Mo_node_51 (by decide) ?_
  refine z_isub d_Mo_node_52 ?_
  refine z_topv (v := nI 3) (by decide) ?_
  refine z_iconst (v := (nI 2)) d_Mo_node_53 (by decide) ?_
  refine z_iload_n 2 d_Mo_node_54 rfl rfl ?_
  refine z_imul d_Mo_node_55 ?_
  refine z_topv (v := nI (2 * kk)) (pk_mul 2 kk) ?_
  refine z_iload_n 3 d_Mo_node_56 rfl rfl ?_
  refine z_iload 4 d_Mo_node_57 rfl ?_
  refine z_callV0 ((m_Mo_node_3E hs0 hst hM (kk := 2 * kk) (by omega) o lf)) ym_Mo_node qM_Mo_218 qI_Mo_node qV_Mo_Mo_node zc_Mo hM.mo d_Mo_node_59 rfl (Nat.le_of_ble_eq_true rfl) ⟨Nat.zero_le _, Nat.zero_le _⟩ ⟨Nat.le_of_ble_eq_true rfl, Nat.le_of_ble_eq_true rfl⟩ ?_
  refine z_imul d_Mo_node_62 ?_
  refine z_bipush (v := 17) d_Mo_node_63 (by decide) ?_
  refine z_aload_n 0 d_Mo_node_65 rfl rfl ?_
  refine z_iload_n 1 d_Mo_node_66 rfl rfl ?_
  refine z_iconst (v := 1) d_Mo_node_67 (by decide) ?_
  refine z_isub d_Mo_node_68 ?_
  refine z_topv (v := nI 3) (by decide) ?_
  refine z_iconst (v := (nI 2)) d_Mo_node_69 (by decide) ?_
  refine z_iload_n 2 d_Mo_node_70 rfl rfl ?_
  refine z_imul d_Mo_node_71 ?_
  refine z_topv (v := nI (2 * kk)) (pk_mul 2 kk) ?_
  refine z_iconst (v := 1) d_Mo_node_72 (by decide) ?_
  refine z_iadd d_Mo_node_73 ?_
  refine z_topv (v := nI (2 * kk + 1)) (nI_1 _) ?_
  refine z_iload_n 3 d_Mo_node_74 rfl rfl ?_
  refine z_iload 4 d_Mo_node_75 rfl ?_
  refine z_callV0 ((m_Mo_node_3E hs0 hst hM (kk := 2 * kk + 1) (by omega) o lf)) ym_Mo_node qM_Mo_218 qI_Mo_node qV_Mo_Mo_node zc_Mo hM.mo d_Mo_node_77 rfl (Nat.le_of_ble_eq_true rfl) ⟨Nat.zero_le _, Nat.zero_le _⟩ ⟨Nat.le_of_ble_eq_true rfl, Nat.le_of_ble_eq_true rfl⟩ ?_
  refine z_imul d_Mo_node_80 ?_
  refine z_iadd d_Mo_node_81 ?_
  refine z_iconst (v := 5) d_Mo_node_82 (by decide) ?_
  refine z_iadd d_Mo_node_83 ?_
  refine z_sipush (v := 9973) d_Mo_node_84 (by decide) ?_
  refine z_irem d_Mo_node_87 (by decide) ?_
  exact z_iret rfl (⟨rfl, rfl⟩) (by first | decide | omega) (by first | decide | omega) d_Mo_node_88
set_option maxHeartbeats 4000000 in
set_option maxRecDepth 100000 in
theorem m_Mo_node_5E {g0 : State} {d : zD} {l : Launch} {a0 : Array Value} (hs0 : zS0 d a0 g0) (hst : l.stackTraces = false) {G : zG} {B : Nat → Nat} {V : Nat → Nat → Int32} {nk ns ne ec : Nat} (hM : zM d B V nk ns ne ec G) {kk : Nat} (hkk : kk < 32768) (o lf : Int32) : zMet g0 d l y_Mo_node c_Mo_node 5 ((Option.some Jvm.ClassFile.FieldType.int)) 17 0 0 [.ref (B 0), .int (nI 5), .int (nI kk), .int o, .int lf] (G) (zEq (some (.int (znode V ne o lf 5 kk))) G) (zNo) := by
  have hnk : nk ≤ 8 := hM.2.1
  have hns : ns ≤ 6 := hM.2.2.1
  have hne : ne ≤ 64 := hM.2.2.2.1
  have hp2 : 2 ^ nk ≤ 256 := Nat.pow_le_pow_right (n := 2) (by decide) hnk
  refine z_entry hs0 hst (by decide) (Nat.le_of_ble_eq_true rfl) (fun p e s m args below meth c => ?_)
  refine z_iload_n 1 d_Mo_node_0 rfl rfl ?_
  refine z_if_ne 47 d_Mo_node_1 (by decide) (fun c_1 => ?_) (fun c_1 => absurd c_1 (by decide))
  refine z_bipush (v := 31) d_Mo_node_47 (by decide) ?_
  refine z_aload_n 0 d_Mo_node_49 rfl rfl ?_
  refine z_iload_n 1 d_Mo_node_50 rfl rfl ?_
  refine z_iconst (v := 1) d_Mo_node_51 (by decide) ?_
  refine z_isub d_Mo_node_52 ?_
  refine z_topv (v := nI 4) (by decide) ?_
  refine z_iconst (v := (nI 2)) d_Mo_node_53 (by decide) ?_
  refine z_iload_n 2 d_Mo_node_54 rfl rfl ?_
  refine z_imul d_Mo_node_55 ?_
  refine z_topv (v := nI (2 * kk)) (pk_mul 2 kk) ?_
  refine z_iload_n 3 d_Mo_node_56 rfl rfl ?_
  refine z_iload 4 d_Mo_node_57 rfl ?_
  refine z_callV0 ((m_Mo_node_4E hs0 hst hM (kk := 2 * kk) (by omega) o lf)) ym_Mo_node qM_Mo_218 qI_Mo_node qV_Mo_Mo_node zc_Mo hM.mo d_Mo_node_59 rfl (Nat.le_of_ble_eq_true rfl) ⟨Nat.zero_le _, Nat.zero_le _⟩ ⟨Nat.le_of_ble_eq_true rfl, Nat.le_of_ble_eq_true rfl⟩ ?_
  refine z_imul d_Mo_node_62 ?_
  refine z_bipush (v := 17) d_Mo_node_63 (by decide) ?_
  refine z_aload_n 0 d_Mo_node_65 rfl rfl ?_
  refine z_iload_n 1 d_Mo_node_66 rfl rfl ?_
  refine z_iconst (v := 1) d_Mo_node_67 (by decide) ?_
  refine z_isub d_Mo_node_68 ?_
  refine z_topv (v := nI 4) (by decide) ?_
  refine z_iconst (v := (nI 2)) d_Mo_node_69 (by decide) ?_
  refine z_iload_n 2 d_Mo_node_70 rfl rfl ?_
  refine z_imul d_Mo_node_71 ?_
  refine z_topv (v := nI (2 * kk)) (pk_mul 2 kk) ?_
  refine z_iconst (v := 1) d_Mo_node_72 (by decide) ?_
  refine z_iadd d_Mo_node_73 ?_
  refine z_topv (v := nI (2 * kk + 1)) (nI_1 _) ?_
  refine z_iload_n 3 d_Mo_node_74 rfl rfl ?_
  refine z_iload 4 d_Mo_node_75 rfl ?_
  refine z_callV0 ((m_Mo_node_4E hs0 hst hM (kk := 2 * kk + 1) (by omega) o lf)) ym_Mo_node qM_Mo_218 qI_Mo_node qV_Mo_Mo_node zc_Mo hM.mo d_Mo_node_77 rfl (Nat.le_of_ble_eq_true rfl) ⟨Nat.zero_le _, Nat.zero_le _⟩ ⟨Nat.le_of_ble_eq_true rfl, Nat.le_of_ble_eq_true rfl⟩ ?_
  refine z_imul d_Mo_node_80 ?_
  refine z_iadd d_Mo_node_81 ?_
  refine z_iconst (v := 5) d_Mo_node_82 (by decide) ?_
  refine z_iadd d_Mo_node_83 ?_
  refine z_sipush (v := 9973) d_Mo_node_84 (by decide) ?_
  refine z_irem d_Mo_node_87 (by decide) ?_
  exact z_iret rfl (⟨rfl, rfl⟩) (by first | decide | omega) (by first | decide | omega) d_Mo_node_88
set_option maxHeartbeats 4000000 in
set_option maxRecDepth 100000 in
theorem m_Mo_node_6E {g0 : State} {d : zD} {l : Launch} {a0 : Array Value} (hs0 : zS0 d a0 g0) (hst : l.stackTraces = false) {G : zG} {B : Nat → Nat} {V : Nat → Nat → Int32} {nk ns ne ec : Nat} (hM : zM d B V nk ns ne ec G) {kk : Nat} (hkk : kk < 16384) (o lf : Int32) : zMet g0 d l y_Mo_node c_Mo_node 5 ((Option.some Jvm.ClassFile.FieldType.int)) 18 0 0 [.ref (B 0), .int (nI 6), .int (nI kk), .int o, .int lf] (G) (zEq (some (.int (znode V ne o lf 6 kk))) G) (zNo) := by
  have hnk : nk ≤ 8 := hM.2.1
  have hns : ns ≤ 6 := hM.2.2.1
  have hne : ne ≤ 64 := hM.2.2.2.1
  have hp2 : 2 ^ nk ≤ 256 := Nat.pow_le_pow_right (n := 2) (by decide) hnk
  refine z_entry hs0 hst (by decide) (Nat.le_of_ble_eq_true rfl) (fun p e s m args below meth c => ?_)
  refine z_iload_n 1 d_Mo_node_0 rfl rfl ?_
  refine z_if_ne 47 d_Mo_node_1 (by decide) (fun c_1 => ?_) (fun c_1 => absurd c_1 (by decide))
  refine z_bipush (v := 31) d_Mo_node_47 (by decide) ?_
  refine z_aload_n 0 d_Mo_node_49 rfl rfl ?_
  refine z_iload_n 1 d_Mo_node_50 rfl rfl ?_
  refine z_iconst (v := 1) d_Mo_node_51 (by decide) ?_
  refine z_isub d_Mo_node_52 ?_
  refine z_topv (v := nI 5) (by decide) ?_
  refine z_iconst (v := (nI 2)) d_Mo_node_53 (by decide) ?_
  refine z_iload_n 2 d_Mo_node_54 rfl rfl ?_
  refine z_imul d_Mo_node_55 ?_
  refine z_topv (v := nI (2 * kk)) (pk_mul 2 kk) ?_
  refine z_iload_n 3 d_Mo_node_56 rfl rfl ?_
  refine z_iload 4 d_Mo_node_57 rfl ?_
  refine z_callV0 ((m_Mo_node_5E hs0 hst hM (kk := 2 * kk) (by omega) o lf)) ym_Mo_node qM_Mo_218 qI_Mo_node qV_Mo_Mo_node zc_Mo hM.mo d_Mo_node_59 rfl (Nat.le_of_ble_eq_true rfl) ⟨Nat.zero_le _, Nat.zero_le _⟩ ⟨Nat.le_of_ble_eq_true rfl, Nat.le_of_ble_eq_true rfl⟩ ?_
  refine z_imul d_Mo_node_62 ?_
  refine z_bipush (v := 17) d_Mo_node_63 (by decide) ?_
  refine z_aload_n 0 d_Mo_node_65 rfl rfl ?_
  refine z_iload_n 1 d_Mo_node_66 rfl rfl ?_
  refine z_iconst (v := 1) d_Mo_node_67 (by decide) ?_
  refine z_isub d_Mo_node_68 ?_
  refine z_topv (v := nI 5) (by decide) ?_
  refine z_iconst (v := (nI 2)) d_Mo_node_69 (by decide) ?_
  refine z_iload_n 2 d_Mo_node_70 rfl rfl ?_
  refine z_imul d_Mo_node_71 ?_
  refine z_topv (v := nI (2 * kk)) (pk_mul 2 kk) ?_
  refine z_iconst (v := 1) d_Mo_node_72 (by decide) ?_
  refine z_iadd d_Mo_node_73 ?_
  refine z_topv (v := nI (2 * kk + 1)) (nI_1 _) ?_
  refine z_iload_n 3 d_Mo_node_74 rfl rfl ?_
  refine z_iload 4 d_Mo_node_75 rfl ?_
  refine z_callV0 ((m_Mo_node_5E hs0 hst hM (kk := 2 * kk + 1) (by omega) o lf)) ym_Mo_node qM_Mo_218 qI_Mo_node qV_Mo_Mo_node zc_Mo hM.mo d_Mo_node_77 rfl (Nat.le_of_ble_eq_true rfl) ⟨Nat.zero_le _, Nat.zero_le _⟩ ⟨Nat.le_of_ble_eq_true rfl, Nat.le_of_ble_eq_true rfl⟩ ?_
  refine z_imul d_Mo_node_80 ?_
  refine z_iadd d_Mo_node_81 ?_
  refine z_iconst (v := 5) d_Mo_node_82 (by decide) ?_
  refine z_iadd d_Mo_node_83 ?_
  refine z_sipush (v := 9973) d_Mo_node_84 (by decide) ?_
  refine z_irem d_Mo_node_87 (by decide) ?_
  exact z_iret rfl (⟨rfl, rfl⟩) (by first | decide | omega) (by first | decide | omega) d_Mo_node_88
set_option maxHeartbeats 4000000 in
set_option maxRecDepth 100000 in
theorem m_Mo_rootE {g0 : State} {d : zD} {l : Launch} {a0 : Array Value} (hs0 : zS0 d a0 g0) (hst : l.stackTraces = false) {G : zG} {B : Nat → Nat} {V : Nat → Nat → Int32} {nk ns ne ec : Nat} (hM : zM d B V nk ns ne ec G) : zMet g0 d l y_Mo_root c_Mo_root 1 ((Option.some Jvm.ClassFile.FieldType.int)) 20 0 0 [.ref (B 0)] (G) (zEq (some (.int (znode V ne (-1) 0 6 0))) G) (zNo) := by
  have hnk : nk ≤ 8 := hM.2.1
  have hns : ns ≤ 6 := hM.2.2.1
  have hne : ne ≤ 64 := hM.2.2.2.1
  have hp2 : 2 ^ nk ≤ 256 := Nat.pow_le_pow_right (n := 2) (by decide) hnk
  refine z_entry hs0 hst (by decide) (Nat.le_of_ble_eq_true rfl) (fun p e s m args below meth c => ?_)
  refine z_aload_n 0 d_Mo_root_0 rfl rfl ?_
  refine z_bipush (v := (nI 6)) d_Mo_root_1 (by decide) ?_
  refine z_iconst (v := (nI 0)) d_Mo_root_3 (by decide) ?_
  refine z_iconst (v := (-1)) d_Mo_root_4 (by decide) ?_
  refine z_iconst (v := 0) d_Mo_root_5 (by decide) ?_
  refine z_callV0 ((m_Mo_node_6E hs0 hst hM (kk := 0) (by decide) (-1) 0)) ym_Mo_node qM_Mo_218 qI_Mo_node qV_Mo_Mo_node zc_Mo hM.mo d_Mo_root_6 rfl (Nat.le_of_ble_eq_true rfl) ⟨Nat.zero_le _, Nat.zero_le _⟩ ⟨Nat.le_of_ble_eq_true rfl, Nat.le_of_ble_eq_true rfl⟩ ?_
  exact z_iret rfl (⟨rfl, rfl⟩) (by first | decide | omega) (by first | decide | omega) d_Mo_root_9
set_option maxHeartbeats 4000000 in
set_option maxRecDepth 100000 in
theorem m_Mo_bankNowE {g0 : State} {d : zD} {l : Launch} {a0 : Array Value} (hs0 : zS0 d a0 g0) (hst : l.stackTraces = false) {G : zG} {B : Nat → Nat} {V : Nat → Nat → Int32} {nk ns ne ec : Nat} (hM : zM d B V nk ns ne ec G) {w : Nat} (hw : w < 12) : zMet g0 d l y_Mo_bankNow c_Mo_bankNow 6 ((Option.some Jvm.ClassFile.FieldType.int)) 21 1 12 [.ref (B 0), .int (nI w)] (G) (fun r G1 => r = some (.int (mBkA V nk ns ne w)) ∧ zM d B V nk ns ne ec G1 ∧ mFr B nk ns ne G G1) (zNo) := by
  have hnk : nk ≤ 8 := hM.2.1
  have hns : ns ≤ 6 := hM.2.2.1
  have hne : ne ≤ 64 := hM.2.2.2.1
  have hp2 : 2 ^ nk ≤ 256 := Nat.pow_le_pow_right (n := 2) (by decide) hnk
  refine z_entry hs0 hst (by decide) (Nat.le_of_ble_eq_true rfl) (fun p e s m args below meth c => ?_)
  refine z_iconst (v := (nI 0)) d_Mo_bankNow_0 (by decide) ?_
  refine z_istore_n (L' := [(2, _), (0, _), (1, _)]) d_Mo_bankNow_1 rfl (by decide) rfl ?_
  refine z_iconst (v := (nI 0)) d_Mo_bankNow_2 (by decide) ?_
  refine z_istore_n (L' := [(3, _), (2, _), (0, _), (1, _)]) d_Mo_bankNow_3 rfl (by decide) rfl ?_
  refine z_iconst (v := (nI 0)) d_Mo_bankNow_4 (by decide) ?_
  refine z_istore (L' := [(4, _), (3, _), (2, _), (0, _), (1, _)]) d_Mo_bankNow_5 (by decide) rfl ?_
  refine z_iconst (v := (nI 0)) d_Mo_bankNow_7 (by decide) ?_
  refine z_istore (L' := [(5, _), (4, _), (3, _), (2, _), (0, _), (1, _)]) d_Mo_bankNow_8 (by decide) rfl ?_
  have key_10 : ∀ (n : Nat) (i : Nat), nk - i < n → (i ≤ nk) → Z g0 d y_Mo_bankNow c_Mo_bankNow 6 ((Option.some Jvm.ClassFile.FieldType.int)) [] p l e (zR 21 1 12) s m args below meth c (vx_MQ below (zQc g0 d (fun r G1 => r = some (.int (mBkA V nk ns ne w)) ∧ zM d B V nk ns ne ec G1 ∧ mFr B nk ns ne G G1)) (zXc g0 d (zNo)) args s 1 12 (zA g0)) 0 0 (G) [(5, .int (nI i)), (4, .int (nI 0)), (3, .int (nI 0)), (2, .int (nI (zcnt (fun k => decide (V (100 + k) 4 ≠ 0)) i))), (0, .ref (B 0)), (1, .int (nI w))] [] 10 := by
    intro n
    induction n with
    | zero => intro i h0; exact absurd h0 (Nat.not_lt_zero _)
    | succ n ih_10 =>
      intro i hm_10 hi
      refine z_iload 0 d_Mo_bankNow_10 rfl ?_
      refine z_aload_n 4 d_Mo_bankNow_12 rfl rfl ?_
      refine z_get zc_Mo 6 (by decide) qF_Mo_16 hM.mo rfl d_Mo_bankNow_13 ?_
      refine z_callF0 (m_AL_size hs0 hst hM.kl) ym_AL_size zF_AL_size qM_Mo_94 zc_AL hM.kl d_Mo_bankNow_16 rfl (Nat.le_of_ble_eq_true rfl) ⟨by decide, by decide⟩ ⟨Nat.le_of_ble_eq_true rfl, Nat.le_of_ble_eq_true rfl⟩ ?_
      refine z_icmp_ge 58 d_Mo_bankNow_21 (by decide) (fun c_21 => ?_) (fun c_21 => ?_)
      · skip
        obtain rfl : nk = i := by
          have := (nI_leI (a := nk) (b := i) (by omega) (by omega)).mp c_21
          omega
        refine z_iconst (v := (nI 0)) d_Mo_bankNow_58 (by decide) ?_
        refine z_istore (L' := [(5, _), (4, _), (3, _), (2, _), (0, _), (1, _)]) d_Mo_bankNow_59 (by decide) rfl ?_
        have key_61 : ∀ (n : Nat) (i : Nat), ns - i < n → (i ≤ ns) → Z g0 d y_Mo_bankNow c_Mo_bankNow 6 ((Option.some Jvm.ClassFile.FieldType.int)) [] p l e (zR 21 1 12) s m args below meth c (vx_MQ below (zQc g0 d (fun r G1 => r = some (.int (mBkA V nk ns ne w)) ∧ zM d B V nk ns ne ec G1 ∧ mFr B nk ns ne G G1)) (zXc g0 d (zNo)) args s 1 12 (zA g0)) 0 0 (G) [(5, .int (nI i)), (4, .int (zsum (fun i => nI (zpop 9 (zsetN (zst (V (300 + i)) (V (400 + i)) (V (200 + i) 3)) 8))) i)), (3, .int (zsum (fun i => nI (zpop 9 (zsetN (zgd (V (300 + i)) (V (400 + i)) (V (200 + i) 3)) 8))) i)), (2, .int (nI (zcnt (fun k => decide (V (100 + k) 4 ≠ 0)) nk))), (0, .ref (B 0)), (1, .int (nI w))] [] 61 := by
          intro n
          induction n with
          | zero => intro i h0; exact absurd h0 (Nat.not_lt_zero _)
          | succ n ih_61 =>
            intro i hm_61 hi
            refine z_iload 0 d_Mo_bankNow_61 rfl ?_
            refine z_aload_n 4 d_Mo_bankNow_63 rfl rfl ?_
            refine z_get zc_Mo 7 (by decide) qF_Mo_20 hM.mo rfl d_Mo_bankNow_64 ?_
            refine z_callF0 (m_AL_size hs0 hst hM.sl) ym_AL_size zF_AL_size qM_Mo_94 zc_AL hM.sl d_Mo_bankNow_67 rfl (Nat.le_of_ble_eq_true rfl) ⟨by decide, by decide⟩ ⟨Nat.le_of_ble_eq_true rfl, Nat.le_of_ble_eq_true rfl⟩ ?_
            refine z_icmp_ge 129 d_Mo_bankNow_72 (by decide) (fun c_72 => ?_) (fun c_72 => ?_)
            · skip
              obtain rfl : ns = i := by
                have := (nI_leI (a := ns) (b := i) (by omega) (by omega)).mp c_72
                omega
              refine z_bipush (v := 12) d_Mo_bankNow_129 (by decide) ?_
              refine z_newaI 12 qA_int (by decide) rfl (by decide) ⟨by decide, by decide⟩ d_Mo_bankNow_131 (fun a ha hab => ?_)
              have hMo : ∀ w, zM d B V nk ns ne ec (zu G a w) := fun w => hM.out (hM.nn_ ha)
              refine z_dup d_Mo_bankNow_133 rfl ?_
              refine z_iconst (v := (nI 0)) d_Mo_bankNow_134 (by decide) ?_
              refine z_aload_n 4 d_Mo_bankNow_135 rfl rfl ?_
              refine z_get zc_Mo 6 (by decide) qF_Mo_16 (hMo _).mo rfl d_Mo_bankNow_136 ?_
              refine z_callF0 (m_AL_size hs0 hst (hMo _).kl) ym_AL_size zF_AL_size qM_Mo_94 zc_AL (hMo _).kl d_Mo_bankNow_139 rfl (Nat.le_of_ble_eq_true rfl) ⟨by decide, by decide⟩ ⟨Nat.le_of_ble_eq_true rfl, Nat.le_of_ble_eq_true rfl⟩ ?_
              refine z_iastN zu_s (show 0 < 12 by decide) (by decide) d_Mo_bankNow_144 ?_
              refine z_one ?_
              refine z_dup d_Mo_bankNow_145 rfl ?_
              refine z_iconst (v := (nI 1)) d_Mo_bankNow_146 (by decide) ?_
              refine z_aload_n 4 d_Mo_bankNow_147 rfl rfl ?_
              refine z_get zc_Mo 7 (by decide) qF_Mo_20 (hMo _).mo rfl d_Mo_bankNow_148 ?_
              refine z_callF0 (m_AL_size hs0 hst (hMo _).sl) ym_AL_size zF_AL_size qM_Mo_94 zc_AL (hMo _).sl d_Mo_bankNow_151 rfl (Nat.le_of_ble_eq_true rfl) ⟨by decide, by decide⟩ ⟨Nat.le_of_ble_eq_true rfl, Nat.le_of_ble_eq_true rfl⟩ ?_
              refine z_iastN zu_s (show 1 < 12 by decide) (by decide) d_Mo_bankNow_156 ?_
              refine z_one ?_
              refine z_dup d_Mo_bankNow_157 rfl ?_
              refine z_iconst (v := (nI 2)) d_Mo_bankNow_158 (by decide) ?_
              refine z_aload_n 4 d_Mo_bankNow_159 rfl rfl ?_
              refine z_get zc_Mo 2 (by decide) qF_Mo_102 (hMo _).mo rfl d_Mo_bankNow_160 ?_
              refine z_iastN zu_s (show 2 < 12 by decide) (by decide) d_Mo_bankNow_163 ?_
              refine z_one ?_
              refine z_dup d_Mo_bankNow_164 rfl ?_
              refine z_iconst (v := (nI 3)) d_Mo_bankNow_165 (by decide) ?_
              refine z_aload_n 4 d_Mo_bankNow_166 rfl rfl ?_
              refine z_get zc_Mo 1 (by decide) qF_Mo_7 (hMo _).mo rfl d_Mo_bankNow_167 ?_
              refine z_iastN zu_s (show 3 < 12 by decide) (by decide) d_Mo_bankNow_170 ?_
              refine z_one ?_
              refine z_dup d_Mo_bankNow_171 rfl ?_
              refine z_iconst (v := (nI 4)) d_Mo_bankNow_172 (by decide) ?_
              refine z_aload_n 4 d_Mo_bankNow_173 rfl rfl ?_
              refine z_get zc_Mo 8 (by decide) qF_Mo_23 (hMo _).mo rfl d_Mo_bankNow_174 ?_
              refine z_callF0 (m_AL_size hs0 hst (hMo _).el) ym_AL_size zF_AL_size qM_Mo_94 zc_AL (hMo _).el d_Mo_bankNow_177 rfl (Nat.le_of_ble_eq_true rfl) ⟨by decide, by decide⟩ ⟨Nat.le_of_ble_eq_true rfl, Nat.le_of_ble_eq_true rfl⟩ ?_
              refine z_iastN zu_s (show 4 < 12 by decide) (by decide) d_Mo_bankNow_182 ?_
              refine z_one ?_
              refine z_dup d_Mo_bankNow_183 rfl ?_
              refine z_iconst (v := (nI 5)) d_Mo_bankNow_184 (by decide) ?_
              refine z_iload_n 5 d_Mo_bankNow_185 rfl rfl ?_
              refine z_iconst (v := 5) d_Mo_bankNow_186 (by decide) ?_
              refine z_icmp_ne 197 d_Mo_bankNow_187 (by decide) (fun c_187 => ?_) (fun c_187 => ?_)
              · skip
                refine z_iconst (v := 0) d_Mo_bankNow_197 (by decide) ?_
                refine z_iastN zu_s (show 5 < 12 by decide) (by decide) d_Mo_bankNow_198 ?_
                refine z_one ?_
                refine z_dup d_Mo_bankNow_199 rfl ?_
                refine z_bipush (v := (nI 6)) d_Mo_bankNow_200 (by decide) ?_
                refine z_aload_n 4 d_Mo_bankNow_202 rfl rfl ?_
                refine z_get zc_Mo 3 (by decide) qF_Mo_175 (hMo _).mo rfl d_Mo_bankNow_203 ?_
                refine z_iastN zu_s (show 6 < 12 by decide) (by decide) d_Mo_bankNow_206 ?_
                refine z_one ?_
                refine z_dup d_Mo_bankNow_207 rfl ?_
                refine z_bipush (v := (nI 7)) d_Mo_bankNow_208 (by decide) ?_
                refine z_aload_n 4 d_Mo_bankNow_210 rfl rfl ?_
                refine z_get zc_Mo 4 (by decide) qF_Mo_178 (hMo _).mo rfl d_Mo_bankNow_211 ?_
                refine z_iastN zu_s (show 7 < 12 by decide) (by decide) d_Mo_bankNow_214 ?_
                refine z_one ?_
                refine z_dup d_Mo_bankNow_215 rfl ?_
                refine z_bipush (v := (nI 8)) d_Mo_bankNow_216 (by decide) ?_
                refine z_aload_n 4 d_Mo_bankNow_218 rfl rfl ?_
                refine z_get zc_Mo 5 (by decide) qF_Mo_169 (hMo _).mo rfl d_Mo_bankNow_219 ?_
                refine z_iastN zu_s (show 8 < 12 by decide) (by decide) d_Mo_bankNow_222 ?_
                refine z_one ?_
                refine z_dup d_Mo_bankNow_223 rfl ?_
                refine z_bipush (v := (nI 9)) d_Mo_bankNow_224 (by decide) ?_
                refine z_iload_n 3 d_Mo_bankNow_226 rfl rfl ?_
                refine z_iastN zu_s (show 9 < 12 by decide) (by decide) d_Mo_bankNow_227 ?_
                refine z_one ?_
                refine z_dup d_Mo_bankNow_228 rfl ?_
                refine z_bipush (v := (nI 10)) d_Mo_bankNow_229 (by decide) ?_
                refine z_iload_n 2 d_Mo_bankNow_231 rfl rfl ?_
                refine z_iastN zu_s (show 10 < 12 by decide) (by decide) d_Mo_bankNow_232 ?_
                refine z_one ?_
                refine z_dup d_Mo_bankNow_233 rfl ?_
                refine z_bipush (v := (nI 11)) d_Mo_bankNow_234 (by decide) ?_
                refine z_iload 1 d_Mo_bankNow_236 rfl ?_
                refine z_iastN zu_s (show 11 < 12 by decide) (by decide) d_Mo_bankNow_238 ?_
                refine z_one ?_
                refine z_astore (L' := [(5, _), (4, _), (3, _), (2, _), (0, _), (1, _)]) d_Mo_bankNow_239 (by decide) rfl ?_
                refine z_aload 0 d_Mo_bankNow_241 rfl ?_
                refine z_iload_n 5 d_Mo_bankNow_243 rfl rfl ?_
                refine z_ialdN zu_s (hw) (by decide) d_Mo_bankNow_244 ?_
                exact z_iret rfl (⟨by unfold mBkA; first | rw [if_pos c_187] | rw [if_neg c_187], hMo _, zFr.new ha⟩) (by first | decide | omega) (by first | decide | omega) d_Mo_bankNow_245
              · skip
                refine z_aload_n 4 d_Mo_bankNow_190 rfl rfl ?_
                refine z_callV1 ((m_Mo_rootE hs0 hst (hMo _))) ym_Mo_root qM_Mo_222 qI_Mo_root qV_Mo_Mo_root zc_Mo (hMo _).mo d_Mo_bankNow_191 rfl (Nat.le_of_ble_eq_true rfl) ⟨by decide, by decide⟩ ⟨Nat.le_of_ble_eq_true rfl, Nat.le_of_ble_eq_true rfl⟩ ?_
                refine z_goto 198 d_Mo_bankNow_194 (by decide) ?_
                refine z_iastN zu_s (show 5 < 12 by decide) (by decide) d_Mo_bankNow_198 ?_
                refine z_one ?_
                refine z_dup d_Mo_bankNow_199 rfl ?_
                refine z_bipush (v := (nI 6)) d_Mo_bankNow_200 (by decide) ?_
                refine z_aload_n 4 d_Mo_bankNow_202 rfl rfl ?_
                refine z_get zc_Mo 3 (by decide) qF_Mo_175 (hMo _).mo rfl d_Mo_bankNow_203 ?_
                refine z_iastN zu_s (show 6 < 12 by decide) (by decide) d_Mo_bankNow_206 ?_
                refine z_one ?_
                refine z_dup d_Mo_bankNow_207 rfl ?_
                refine z_bipush (v := (nI 7)) d_Mo_bankNow_208 (by decide) ?_
                refine z_aload_n 4 d_Mo_bankNow_210 rfl rfl ?_
                refine z_get zc_Mo 4 (by decide) qF_Mo_178 (hMo _).mo rfl d_Mo_bankNow_211 ?_
                refine z_iastN zu_s (show 7 < 12 by decide) (by decide) d_Mo_bankNow_214 ?_
                refine z_one ?_
                refine z_dup d_Mo_bankNow_215 rfl ?_
                refine z_bipush (v := (nI 8)) d_Mo_bankNow_216 (by decide) ?_
                refine z_aload_n 4 d_Mo_bankNow_218 rfl rfl ?_
                refine z_get zc_Mo 5 (by decide) qF_Mo_169 (hMo _).mo rfl d_Mo_bankNow_219 ?_
                refine z_iastN zu_s (show 8 < 12 by decide) (by decide) d_Mo_bankNow_222 ?_
                refine z_one ?_
                refine z_dup d_Mo_bankNow_223 rfl ?_
                refine z_bipush (v := (nI 9)) d_Mo_bankNow_224 (by decide) ?_
                refine z_iload_n 3 d_Mo_bankNow_226 rfl rfl ?_
                refine z_iastN zu_s (show 9 < 12 by decide) (by decide) d_Mo_bankNow_227 ?_
                refine z_one ?_
                refine z_dup d_Mo_bankNow_228 rfl ?_
                refine z_bipush (v := (nI 10)) d_Mo_bankNow_229 (by decide) ?_
                refine z_iload_n 2 d_Mo_bankNow_231 rfl rfl ?_
                refine z_iastN zu_s (show 10 < 12 by decide) (by decide) d_Mo_bankNow_232 ?_
                refine z_one ?_
                refine z_dup d_Mo_bankNow_233 rfl ?_
                refine z_bipush (v := (nI 11)) d_Mo_bankNow_234 (by decide) ?_
                refine z_iload 1 d_Mo_bankNow_236 rfl ?_
                refine z_iastN zu_s (show 11 < 12 by decide) (by decide) d_Mo_bankNow_238 ?_
                refine z_one ?_
                refine z_astore (L' := [(5, _), (4, _), (3, _), (2, _), (0, _), (1, _)]) d_Mo_bankNow_239 (by decide) rfl ?_
                refine z_aload 0 d_Mo_bankNow_241 rfl ?_
                refine z_iload_n 5 d_Mo_bankNow_243 rfl rfl ?_
                refine z_ialdN zu_s (hw) (by decide) d_Mo_bankNow_244 ?_
                exact z_iret rfl (⟨by unfold mBkA; first | rw [if_pos c_187] | rw [if_neg c_187], hMo _, zFr.new ha⟩) (by first | decide | omega) (by first | decide | omega) d_Mo_bankNow_245
            · skip
              have hi6 : i < ns := Nat.lt_of_not_le fun q => c_72 (nI_le q (by omega))
              refine z_iload_n 2 d_Mo_bankNow_75 rfl rfl ?_
              refine z_aload_n 4 d_Mo_bankNow_76 rfl rfl ?_
              refine z_get zc_Mo 7 (by decide) qF_Mo_20 hM.mo rfl d_Mo_bankNow_77 ?_
              refine z_iload 0 d_Mo_bankNow_80 rfl ?_
              refine z_callF0 (m_AL_get hs0 hst (hM.sA hi6) hi6 (if_pos hi6)) ym_AL_get zF_AL_get qM_Mo_51 zc_AL (hM.sA hi6).1 d_Mo_bankNow_82 rfl (Nat.le_of_ble_eq_true rfl) ⟨by decide, by decide⟩ ⟨Nat.le_of_ble_eq_true rfl, Nat.le_of_ble_eq_true rfl⟩ ?_
              refine z_castS zc_MS qK_Mo_47 (hM.se hi6).1 d_Mo_bankNow_87 ?_
              refine z_callV0 (m_MS_good hs0 hst (hM.se hi6)) ym_MS_good qM_Mo_62 qI_MS_good qV_MS_MS_good zc_MS (hM.se hi6).1 d_Mo_bankNow_90 rfl (Nat.le_of_ble_eq_true rfl) ⟨by decide, by decide⟩ ⟨Nat.le_of_ble_eq_true rfl, Nat.le_of_ble_eq_true rfl⟩ ?_
              refine z_topv (zset_N (zgd (V (300 + i)) (V (400 + i)) (V (200 + i) 3)) 8 (by decide)).1 ?_
              refine z_callS0 ((m_Mo_size hs0 hst (nn := zsetN (zgd (V (300 + i)) (V (400 + i)) (V (200 + i) 3)) 8) (by have := (zset_N (zgd (V (300 + i)) (V (400 + i)) (V (200 + i) 3)) 8 (by decide)).2; omega))) ym_Mo_size qM_Mo_66 qS_Mo_size d_Mo_bankNow_93 rfl (Nat.le_of_ble_eq_true rfl) ⟨by decide, by decide⟩ ⟨Nat.le_of_ble_eq_true rfl, Nat.le_of_ble_eq_true rfl⟩ ?_
              refine z_iadd d_Mo_bankNow_96 ?_
              refine z_topv (v := zsum (fun i => nI (zpop 9 (zsetN (zgd (V (300 + i)) (V (400 + i)) (V (200 + i) 3)) 8))) (i + 1)) rfl ?_
              refine z_istore_n (L' := [(3, _), (5, _), (4, _), (2, _), (0, _), (1, _)]) d_Mo_bankNow_97 rfl (by decide) rfl ?_
              refine z_iload 2 d_Mo_bankNow_98 rfl ?_
              refine z_aload_n 4 d_Mo_bankNow_100 rfl rfl ?_
              refine z_get zc_Mo 7 (by decide) qF_Mo_20 hM.mo rfl d_Mo_bankNow_101 ?_
              refine z_iload 1 d_Mo_bankNow_104 rfl ?_
              refine z_callF0 (m_AL_get hs0 hst (hM.sA hi6) hi6 (if_pos hi6)) ym_AL_get zF_AL_get qM_Mo_51 zc_AL (hM.sA hi6).1 d_Mo_bankNow_106 rfl (Nat.le_of_ble_eq_true rfl) ⟨by decide, by decide⟩ ⟨Nat.le_of_ble_eq_true rfl, Nat.le_of_ble_eq_true rfl⟩ ?_
              refine z_castS zc_MS qK_Mo_47 (hM.se hi6).1 d_Mo_bankNow_111 ?_
              refine z_callV0 (m_MS_stale hs0 hst (hM.se hi6)) ym_MS_stale qM_Mo_156 qI_MS_stale qV_MS_MS_stale zc_MS (hM.se hi6).1 d_Mo_bankNow_114 rfl (Nat.le_of_ble_eq_true rfl) ⟨by decide, by decide⟩ ⟨Nat.le_of_ble_eq_true rfl, Nat.le_of_ble_eq_true rfl⟩ ?_
              refine z_topv (zset_N (zst (V (300 + i)) (V (400 + i)) (V (200 + i) 3)) 8 (by decide)).1 ?_
              refine z_callS0 ((m_Mo_size hs0 hst (nn := zsetN (zst (V (300 + i)) (V (400 + i)) (V (200 + i) 3)) 8) (by have := (zset_N (zst (V (300 + i)) (V (400 + i)) (V (200 + i) 3)) 8 (by decide)).2; omega))) ym_Mo_size qM_Mo_66 qS_Mo_size d_Mo_bankNow_117 rfl (Nat.le_of_ble_eq_true rfl) ⟨by decide, by decide⟩ ⟨Nat.le_of_ble_eq_true rfl, Nat.le_of_ble_eq_true rfl⟩ ?_
              refine z_iadd d_Mo_bankNow_120 ?_
              refine z_topv (v := zsum (fun i => nI (zpop 9 (zsetN (zst (V (300 + i)) (V (400 + i)) (V (200 + i) 3)) 8))) (i + 1)) rfl ?_
              refine z_istore (L' := [(4, _), (3, _), (5, _), (2, _), (0, _), (1, _)]) d_Mo_bankNow_121 (by decide) rfl ?_
              refine z_iinc (v := nI (i + 1)) (L' := [(5, _), (4, _), (3, _), (2, _), (0, _), (1, _)]) 2 d_Mo_bankNow_123 rfl (nI_1 i) (by decide) rfl ?_
              refine z_goto 61 d_Mo_bankNow_126 (by decide) ?_
              exact ih_61 (i + 1) (by omega) (by omega)
        exact key_61 (ns + 1) 0 (by omega) (by omega)
      · skip
        have hi6 : i < nk := Nat.lt_of_not_le fun q => c_21 (nI_le q (by omega))
        refine z_iload_n 3 d_Mo_bankNow_24 rfl rfl ?_
        refine z_aload_n 4 d_Mo_bankNow_25 rfl rfl ?_
        refine z_get zc_Mo 6 (by decide) qF_Mo_16 hM.mo rfl d_Mo_bankNow_26 ?_
        refine z_iload 0 d_Mo_bankNow_29 rfl ?_
        refine z_callF0 (m_AL_get hs0 hst (hM.kA hi6) hi6 (if_pos hi6)) ym_AL_get zF_AL_get qM_Mo_51 zc_AL (hM.kA hi6).1 d_Mo_bankNow_31 rfl (Nat.le_of_ble_eq_true rfl) ⟨by decide, by decide⟩ ⟨Nat.le_of_ble_eq_true rfl, Nat.le_of_ble_eq_true rfl⟩ ?_
        refine z_castS zc_MK qK_Mo_57 (hM.ke hi6) d_Mo_bankNow_36 ?_
        refine z_get zc_MK 4 (by decide) qF_Mo_184 (hM.ke hi6) rfl d_Mo_bankNow_39 ?_
        refine z_if_eq 49 d_Mo_bankNow_42 (by decide) (fun c_42 => ?_) (fun c_42 => ?_)
        · skip
          have hz5 : nI (zcnt (fun k => decide (V (100 + k) 4 ≠ 0)) i) + 0 = nI (zcnt (fun k => decide (V (100 + k) 4 ≠ 0)) (i + 1)) := by rw [zcnt_skip (f := (fun k => decide (V (100 + k) 4 ≠ 0))) (decide_eq_false (p := V (100 + i) 4 ≠ 0) (fun q => q c_42)), Int32.add_zero]
          refine z_iconst (v := 0) d_Mo_bankNow_49 (by decide) ?_
          refine z_iadd d_Mo_bankNow_50 ?_
          refine z_topv hz5 ?_
          refine z_istore_n (L' := [(2, _), (5, _), (4, _), (3, _), (0, _), (1, _)]) d_Mo_bankNow_51 rfl (by decide) rfl ?_
          refine z_iinc (v := nI (i + 1)) (L' := [(5, _), (2, _), (4, _), (3, _), (0, _), (1, _)]) 1 d_Mo_bankNow_52 rfl (nI_1 i) (by decide) rfl ?_
          refine z_goto 10 d_Mo_bankNow_55 (by decide) ?_
          refine z_sub (L' := [(5, _), (4, _), (3, _), (2, _), (0, _), (1, _)]) [0, 2, 3, 1, 4, 5] rfl ?_
          exact ih_10 (i + 1) (by omega) (by omega)
        · skip
          have hz5 : nI (zcnt (fun k => decide (V (100 + k) 4 ≠ 0)) i) + 1 = nI (zcnt (fun k => decide (V (100 + k) 4 ≠ 0)) (i + 1)) := by rw [zcnt_step (f := (fun k => decide (V (100 + k) 4 ≠ 0))) (decide_eq_true (p := V (100 + i) 4 ≠ 0) c_42)]; exact nI_1 _
          refine z_iconst (v := 1) d_Mo_bankNow_45 (by decide) ?_
          refine z_goto 50 d_Mo_bankNow_46 (by decide) ?_
          refine z_iadd d_Mo_bankNow_50 ?_
          refine z_topv hz5 ?_
          refine z_istore_n (L' := [(2, _), (5, _), (4, _), (3, _), (0, _), (1, _)]) d_Mo_bankNow_51 rfl (by decide) rfl ?_
          refine z_iinc (v := nI (i + 1)) (L' := [(5, _), (2, _), (4, _), (3, _), (0, _), (1, _)]) 1 d_Mo_bankNow_52 rfl (nI_1 i) (by decide) rfl ?_
          refine z_goto 10 d_Mo_bankNow_55 (by decide) ?_
          refine z_sub (L' := [(5, _), (4, _), (3, _), (2, _), (0, _), (1, _)]) [0, 2, 3, 1, 4, 5] rfl ?_
          exact ih_10 (i + 1) (by omega) (by omega)
  exact key_10 (nk + 1) 0 (by omega) (by omega)
set_option maxHeartbeats 4000000 in
set_option maxRecDepth 100000 in
theorem m_Mo_keeperNowE {g0 : State} {d : zD} {l : Launch} {a0 : Array Value} (hs0 : zS0 d a0 g0) (hst : l.stackTraces = false) {G : zG} {B : Nat → Nat} {V : Nat → Nat → Int32} {nk ns ne ec : Nat} (hM : zM d B V nk ns ne ec G) {ki : Nat} (hki : ki < nk) {w : Nat} (hw : w < 7) : zMet g0 d l y_Mo_keeperNow c_Mo_keeperNow 7 ((Option.some Jvm.ClassFile.FieldType.int)) 11 1 7 [.ref (B 0), .int (nI ki), .int (nI w)] (G) (fun r G1 => r = some (.int (mKeA V ns ki w)) ∧ zM d B V nk ns ne ec G1 ∧ mFr B nk ns ne G G1) (zNo) := by
  have hnk : nk ≤ 8 := hM.2.1
  have hns : ns ≤ 6 := hM.2.2.1
  have hne : ne ≤ 64 := hM.2.2.2.1
  have hp2 : 2 ^ nk ≤ 256 := Nat.pow_le_pow_right (n := 2) (by decide) hnk
  have hj : ki < 8 := by omega
  refine z_entry hs0 hst (by decide) (Nat.le_of_ble_eq_true rfl) (fun p e s m args below meth c => ?_)
  refine z_aload_n 0 d_Mo_keeperNow_0 rfl rfl ?_
  refine z_get zc_Mo 6 (by decide) qF_Mo_16 hM.mo rfl d_Mo_keeperNow_1 ?_
  refine z_iload_n 1 d_Mo_keeperNow_4 rfl rfl ?_
  refine z_callF0 (m_AL_get hs0 hst (hM.kA hki) hki (if_pos hki)) ym_AL_get zF_AL_get qM_Mo_51 zc_AL (hM.kA hki).1 d_Mo_keeperNow_5 rfl (Nat.le_of_ble_eq_true rfl) ⟨by decide, by decide⟩ ⟨Nat.le_of_ble_eq_true rfl, Nat.le_of_ble_eq_true rfl⟩ ?_
  refine z_castS zc_MK qK_Mo_57 (hM.ke hki) d_Mo_keeperNow_10 ?_
  refine z_astore_n (L' := [(3, _), (0, _), (1, _), (2, _)]) d_Mo_keeperNow_13 rfl (by decide) rfl ?_
  refine z_iconst (v := (nI 0)) d_Mo_keeperNow_14 (by decide) ?_
  refine z_istore (L' := [(4, _), (3, _), (0, _), (1, _), (2, _)]) d_Mo_keeperNow_15 (by decide) rfl ?_
  refine z_iconst (v := (nI 0)) d_Mo_keeperNow_17 (by decide) ?_
  refine z_istore (L' := [(5, _), (4, _), (3, _), (0, _), (1, _), (2, _)]) d_Mo_keeperNow_18 (by decide) rfl ?_
  refine z_iconst (v := (nI 0)) d_Mo_keeperNow_20 (by decide) ?_
  refine z_istore (L' := [(6, _), (5, _), (4, _), (3, _), (0, _), (1, _), (2, _)]) d_Mo_keeperNow_21 (by decide) rfl ?_
  have key_23 : ∀ (n : Nat) (i : Nat), ns - i < n → (i ≤ ns) → Z g0 d y_Mo_keeperNow c_Mo_keeperNow 7 ((Option.some Jvm.ClassFile.FieldType.int)) [] p l e (zR 11 1 7) s m args below meth c (vx_MQ below (zQc g0 d (fun r G1 => r = some (.int (mKeA V ns ki w)) ∧ zM d B V nk ns ne ec G1 ∧ mFr B nk ns ne G G1)) (zXc g0 d (zNo)) args s 1 7 (zA g0)) 0 0 (G) [(6, .int (nI i)), (5, .int (nI (zcnt (fun i => zst (V (300 + i)) (V (400 + i)) (V (200 + i) 3) ki) i))), (4, .int (nI (zcnt (fun i => decide (V (300 + i) ki ≠ -1)) i))), (3, .ref (B (100 + ki))), (0, .ref (B 0)), (1, .int (nI ki)), (2, .int (nI w))] [] 23 := by
    intro n
    induction n with
    | zero => intro i h0; exact absurd h0 (Nat.not_lt_zero _)
    | succ n ih_23 =>
      intro i hm_23 hi
      refine z_iload 0 d_Mo_keeperNow_23 rfl ?_
      refine z_aload_n 4 d_Mo_keeperNow_25 rfl rfl ?_
      refine z_get zc_Mo 7 (by decide) qF_Mo_20 hM.mo rfl d_Mo_keeperNow_26 ?_
      refine z_callF0 (m_AL_size hs0 hst hM.sl) ym_AL_size zF_AL_size qM_Mo_94 zc_AL hM.sl d_Mo_keeperNow_29 rfl (Nat.le_of_ble_eq_true rfl) ⟨by decide, by decide⟩ ⟨Nat.le_of_ble_eq_true rfl, Nat.le_of_ble_eq_true rfl⟩ ?_
      refine z_icmp_ge 107 d_Mo_keeperNow_34 (by decide) (fun c_34 => ?_) (fun c_34 => ?_)
      · skip
        obtain rfl : ns = i := by
          have := (nI_leI (a := ns) (b := i) (by omega) (by omega)).mp c_34
          omega
        refine z_bipush (v := 7) d_Mo_keeperNow_107 (by decide) ?_
        refine z_newaI 7 qA_int (by decide) rfl (by decide) ⟨by decide, by decide⟩ d_Mo_keeperNow_109 (fun a ha hab => ?_)
        have hMo : ∀ w, zM d B V nk ns ne ec (zu G a w) := fun w => hM.out (hM.nn_ ha)
        refine z_dup d_Mo_keeperNow_111 rfl ?_
        refine z_iconst (v := (nI 0)) d_Mo_keeperNow_112 (by decide) ?_
        refine z_aload_n 3 d_Mo_keeperNow_113 rfl rfl ?_
        refine z_get zc_MK 0 (by decide) qF_Mo_96 ((hMo _).ke hki) rfl d_Mo_keeperNow_114 ?_
        refine z_iastN zu_s (show 0 < 7 by decide) (by decide) d_Mo_keeperNow_117 ?_
        refine z_one ?_
        refine z_dup d_Mo_keeperNow_118 rfl ?_
        refine z_iconst (v := (nI 1)) d_Mo_keeperNow_119 (by decide) ?_
        refine z_aload_n 3 d_Mo_keeperNow_120 rfl rfl ?_
        refine z_get zc_MK 1 (by decide) qF_Mo_193 ((hMo _).ke hki) rfl d_Mo_keeperNow_121 ?_
        refine z_iastN zu_s (show 1 < 7 by decide) (by decide) d_Mo_keeperNow_124 ?_
        refine z_one ?_
        refine z_dup d_Mo_keeperNow_125 rfl ?_
        refine z_iconst (v := (nI 2)) d_Mo_keeperNow_126 (by decide) ?_
        refine z_aload_n 3 d_Mo_keeperNow_127 rfl rfl ?_
        refine z_get zc_MK 2 (by decide) qF_Mo_196 ((hMo _).ke hki) rfl d_Mo_keeperNow_128 ?_
        refine z_iastN zu_s (show 2 < 7 by decide) (by decide) d_Mo_keeperNow_131 ?_
        refine z_one ?_
        refine z_dup d_Mo_keeperNow_132 rfl ?_
        refine z_iconst (v := (nI 3)) d_Mo_keeperNow_133 (by decide) ?_
        refine z_aload_n 3 d_Mo_keeperNow_134 rfl rfl ?_
        refine z_get zc_MK 3 (by decide) qF_Mo_59 ((hMo _).ke hki) rfl d_Mo_keeperNow_135 ?_
        refine z_iastN zu_s (show 3 < 7 by decide) (by decide) d_Mo_keeperNow_138 ?_
        refine z_one ?_
        refine z_dup d_Mo_keeperNow_139 rfl ?_
        refine z_iconst (v := (nI 4)) d_Mo_keeperNow_140 (by decide) ?_
        refine z_aload_n 3 d_Mo_keeperNow_141 rfl rfl ?_
        refine z_get zc_MK 4 (by decide) qF_Mo_184 ((hMo _).ke hki) rfl d_Mo_keeperNow_142 ?_
        refine z_if_eq 152 d_Mo_keeperNow_145 (by decide) (fun c_145 => ?_) (fun c_145 => ?_)
        · skip
          refine z_iconst (v := 0) d_Mo_keeperNow_152 (by decide) ?_
          refine z_iastN zu_s (show 4 < 7 by decide) (by decide) d_Mo_keeperNow_153 ?_
          refine z_one ?_
          refine z_dup d_Mo_keeperNow_154 rfl ?_
          refine z_iconst (v := (nI 5)) d_Mo_keeperNow_155 (by decide) ?_
          refine z_iload 2 d_Mo_keeperNow_156 rfl ?_
          refine z_iastN zu_s (show 5 < 7 by decide) (by decide) d_Mo_keeperNow_158 ?_
          refine z_one ?_
          refine z_dup d_Mo_keeperNow_159 rfl ?_
          refine z_bipush (v := (nI 6)) d_Mo_keeperNow_160 (by decide) ?_
          refine z_iload 1 d_Mo_keeperNow_162 rfl ?_
          refine z_iastN zu_s (show 6 < 7 by decide) (by decide) d_Mo_keeperNow_164 ?_
          refine z_one ?_
          refine z_astore (L' := [(6, _), (5, _), (4, _), (3, _), (0, _), (1, _), (2, _)]) d_Mo_keeperNow_165 (by decide) rfl ?_
          refine z_aload 0 d_Mo_keeperNow_167 rfl ?_
          refine z_iload_n 6 d_Mo_keeperNow_169 rfl rfl ?_
          refine z_ialdN zu_s (hw) (by decide) d_Mo_keeperNow_170 ?_
          exact z_iret rfl (⟨by unfold mKeA; first | rw [if_pos c_145] | rw [if_neg c_145], hMo _, zFr.new ha⟩) (by first | decide | omega) (by first | decide | omega) d_Mo_keeperNow_171
        · skip
          refine z_iconst (v := 1) d_Mo_keeperNow_148 (by decide) ?_
          refine z_goto 153 d_Mo_keeperNow_149 (by decide) ?_
          refine z_iastN zu_s (show 4 < 7 by decide) (by decide) d_Mo_keeperNow_153 ?_
          refine z_one ?_
          refine z_dup d_Mo_keeperNow_154 rfl ?_
          refine z_iconst (v := (nI 5)) d_Mo_keeperNow_155 (by decide) ?_
          refine z_iload 2 d_Mo_keeperNow_156 rfl ?_
          refine z_iastN zu_s (show 5 < 7 by decide) (by decide) d_Mo_keeperNow_158 ?_
          refine z_one ?_
          refine z_dup d_Mo_keeperNow_159 rfl ?_
          refine z_bipush (v := (nI 6)) d_Mo_keeperNow_160 (by decide) ?_
          refine z_iload 1 d_Mo_keeperNow_162 rfl ?_
          refine z_iastN zu_s (show 6 < 7 by decide) (by decide) d_Mo_keeperNow_164 ?_
          refine z_one ?_
          refine z_astore (L' := [(6, _), (5, _), (4, _), (3, _), (0, _), (1, _), (2, _)]) d_Mo_keeperNow_165 (by decide) rfl ?_
          refine z_aload 0 d_Mo_keeperNow_167 rfl ?_
          refine z_iload_n 6 d_Mo_keeperNow_169 rfl rfl ?_
          refine z_ialdN zu_s (hw) (by decide) d_Mo_keeperNow_170 ?_
          exact z_iret rfl (⟨by unfold mKeA; first | rw [if_pos c_145] | rw [if_neg c_145], hMo _, zFr.new ha⟩) (by first | decide | omega) (by first | decide | omega) d_Mo_keeperNow_171
      · skip
        have hi6 : i < ns := Nat.lt_of_not_le fun q => c_34 (nI_le q (by omega))
        refine z_iload 2 d_Mo_keeperNow_37 rfl ?_
        refine z_aload_n 4 d_Mo_keeperNow_39 rfl rfl ?_
        refine z_get zc_Mo 7 (by decide) qF_Mo_20 hM.mo rfl d_Mo_keeperNow_40 ?_
        refine z_iload 0 d_Mo_keeperNow_43 rfl ?_
        refine z_callF0 (m_AL_get hs0 hst (hM.sA hi6) hi6 (if_pos hi6)) ym_AL_get zF_AL_get qM_Mo_51 zc_AL (hM.sA hi6).1 d_Mo_keeperNow_45 rfl (Nat.le_of_ble_eq_true rfl) ⟨by decide, by decide⟩ ⟨Nat.le_of_ble_eq_true rfl, Nat.le_of_ble_eq_true rfl⟩ ?_
        refine z_castS zc_MS qK_Mo_47 (hM.se hi6).1 d_Mo_keeperNow_50 ?_
        refine z_get zc_MS 6 (by decide) qF_Mo_46 (hM.se hi6).1 rfl d_Mo_keeperNow_53 ?_
        refine z_iload_n 5 d_Mo_keeperNow_56 rfl rfl ?_
        refine z_ialdN (hM.se hi6).2.1 (hj) (by decide) d_Mo_keeperNow_57 ?_
        refine z_iconst (v := (-1)) d_Mo_keeperNow_58 (by decide) ?_
        refine z_icmp_ne 66 d_Mo_keeperNow_59 (by decide) (fun c_59 => ?_) (fun c_59 => ?_)
        · skip
          have hz5 : nI (zcnt (fun i => decide (V (300 + i) ki ≠ -1)) i) + 1 = nI (zcnt (fun i => decide (V (300 + i) ki ≠ -1)) (i + 1)) := by rw [zcnt_step (f := (fun i => decide (V (300 + i) ki ≠ -1))) (decide_eq_true (p := V (300 + i) ki ≠ -1) c_59)]; exact nI_1 _
          refine z_iconst (v := 1) d_Mo_keeperNow_66 (by decide) ?_
          refine z_iadd d_Mo_keeperNow_67 ?_
          refine z_topv hz5 ?_
          refine z_istore (L' := [(4, _), (6, _), (5, _), (3, _), (0, _), (1, _), (2, _)]) d_Mo_keeperNow_68 (by decide) rfl ?_
          refine z_iload 2 d_Mo_keeperNow_70 rfl ?_
          refine z_aload_n 4 d_Mo_keeperNow_72 rfl rfl ?_
          refine z_get zc_Mo 7 (by decide) qF_Mo_20 hM.mo rfl d_Mo_keeperNow_73 ?_
          refine z_iload 1 d_Mo_keeperNow_76 rfl ?_
          refine z_callF0 (m_AL_get hs0 hst (hM.sA hi6) hi6 (if_pos hi6)) ym_AL_get zF_AL_get qM_Mo_51 zc_AL (hM.sA hi6).1 d_Mo_keeperNow_78 rfl (Nat.le_of_ble_eq_true rfl) ⟨by decide, by decide⟩ ⟨Nat.le_of_ble_eq_true rfl, Nat.le_of_ble_eq_true rfl⟩ ?_
          refine z_castS zc_MS qK_Mo_47 (hM.se hi6).1 d_Mo_keeperNow_83 ?_
          refine z_iload_n 5 d_Mo_keeperNow_86 rfl rfl ?_
          refine z_callV0 (m_MS_isStale hs0 hst (hM.se hi6) hj) ym_MS_isStale qM_Mo_190 qI_MS_isStale qV_MS_MS_isStale zc_MS (hM.se hi6).1 d_Mo_keeperNow_87 rfl (Nat.le_of_ble_eq_true rfl) ⟨by decide, by decide⟩ ⟨Nat.le_of_ble_eq_true rfl, Nat.le_of_ble_eq_true rfl⟩ ?_
          refine z_if_eq 97 d_Mo_keeperNow_90 (by decide) (fun c_90 => ?_) (fun c_90 => ?_)
          · skip
            have hz6 : nI (zcnt (fun i => zst (V (300 + i)) (V (400 + i)) (V (200 + i) 3) ki) i) + 0 = nI (zcnt (fun i => zst (V (300 + i)) (V (400 + i)) (V (200 + i) 3) ki) (i + 1)) := by rw [zcnt_skip (f := (fun i => zst (V (300 + i)) (V (400 + i)) (V (200 + i) 3) ki)) ((zb_0 _).mp c_90), Int32.add_zero]
            refine z_iconst (v := 0) d_Mo_keeperNow_97 (by decide) ?_
            refine z_iadd d_Mo_keeperNow_98 ?_
            refine z_topv hz6 ?_
            refine z_istore (L' := [(5, _), (4, _), (6, _), (3, _), (0, _), (1, _), (2, _)]) d_Mo_keeperNow_99 (by decide) rfl ?_
            refine z_iinc (v := nI (i + 1)) (L' := [(6, _), (5, _), (4, _), (3, _), (0, _), (1, _), (2, _)]) 2 d_Mo_keeperNow_101 rfl (nI_1 i) (by decide) rfl ?_
            refine z_goto 23 d_Mo_keeperNow_104 (by decide) ?_
            exact ih_23 (i + 1) (by omega) (by omega)
          · skip
            have hz6 : nI (zcnt (fun i => zst (V (300 + i)) (V (400 + i)) (V (200 + i) 3) ki) i) + 1 = nI (zcnt (fun i => zst (V (300 + i)) (V (400 + i)) (V (200 + i) 3) ki) (i + 1)) := by rw [zcnt_step (f := (fun i => zst (V (300 + i)) (V (400 + i)) (V (200 + i) 3) ki)) ((zb_n0 _).mp c_90)]; exact nI_1 _
            refine z_iconst (v := 1) d_Mo_keeperNow_93 (by decide) ?_
            refine z_goto 98 d_Mo_keeperNow_94 (by decide) ?_
            refine z_iadd d_Mo_keeperNow_98 ?_
            refine z_topv hz6 ?_
            refine z_istore (L' := [(5, _), (4, _), (6, _), (3, _), (0, _), (1, _), (2, _)]) d_Mo_keeperNow_99 (by decide) rfl ?_
            refine z_iinc (v := nI (i + 1)) (L' := [(6, _), (5, _), (4, _), (3, _), (0, _), (1, _), (2, _)]) 2 d_Mo_keeperNow_101 rfl (nI_1 i) (by decide) rfl ?_
            refine z_goto 23 d_Mo_keeperNow_104 (by decide) ?_
            exact ih_23 (i + 1) (by omega) (by omega)
        · skip
          have hz5 : nI (zcnt (fun i => decide (V (300 + i) ki ≠ -1)) i) + 0 = nI (zcnt (fun i => decide (V (300 + i) ki ≠ -1)) (i + 1)) := by rw [zcnt_skip (f := (fun i => decide (V (300 + i) ki ≠ -1))) (decide_eq_false (p := V (300 + i) ki ≠ -1) (fun q => q c_59)), Int32.add_zero]
          refine z_iconst (v := 0) d_Mo_keeperNow_62 (by decide) ?_
          refine z_goto 67 d_Mo_keeperNow_63 (by decide) ?_
          refine z_iadd d_Mo_keeperNow_67 ?_
          refine z_topv hz5 ?_
          refine z_istore (L' := [(4, _), (6, _), (5, _), (3, _), (0, _), (1, _), (2, _)]) d_Mo_keeperNow_68 (by decide) rfl ?_
          refine z_iload 2 d_Mo_keeperNow_70 rfl ?_
          refine z_aload_n 4 d_Mo_keeperNow_72 rfl rfl ?_
          refine z_get zc_Mo 7 (by decide) qF_Mo_20 hM.mo rfl d_Mo_keeperNow_73 ?_
          refine z_iload 1 d_Mo_keeperNow_76 rfl ?_
          refine z_callF0 (m_AL_get hs0 hst (hM.sA hi6) hi6 (if_pos hi6)) ym_AL_get zF_AL_get qM_Mo_51 zc_AL (hM.sA hi6).1 d_Mo_keeperNow_78 rfl (Nat.le_of_ble_eq_true rfl) ⟨by decide, by decide⟩ ⟨Nat.le_of_ble_eq_true rfl, Nat.le_of_ble_eq_true rfl⟩ ?_
          refine z_castS zc_MS qK_Mo_47 (hM.se hi6).1 d_Mo_keeperNow_83 ?_
          refine z_iload_n 5 d_Mo_keeperNow_86 rfl rfl ?_
          refine z_callV0 (m_MS_isStale hs0 hst (hM.se hi6) hj) ym_MS_isStale qM_Mo_190 qI_MS_isStale qV_MS_MS_isStale zc_MS (hM.se hi6).1 d_Mo_keeperNow_87 rfl (Nat.le_of_ble_eq_true rfl) ⟨by decide, by decide⟩ ⟨Nat.le_of_ble_eq_true rfl, Nat.le_of_ble_eq_true rfl⟩ ?_
          refine z_if_eq 97 d_Mo_keeperNow_90 (by decide) (fun c_90 => ?_) (fun c_90 => ?_)
          · skip
            have hz6 : nI (zcnt (fun i => zst (V (300 + i)) (V (400 + i)) (V (200 + i) 3) ki) i) + 0 = nI (zcnt (fun i => zst (V (300 + i)) (V (400 + i)) (V (200 + i) 3) ki) (i + 1)) := by rw [zcnt_skip (f := (fun i => zst (V (300 + i)) (V (400 + i)) (V (200 + i) 3) ki)) ((zb_0 _).mp c_90), Int32.add_zero]
            refine z_iconst (v := 0) d_Mo_keeperNow_97 (by decide) ?_
            refine z_iadd d_Mo_keeperNow_98 ?_
            refine z_topv hz6 ?_
            refine z_istore (L' := [(5, _), (4, _), (6, _), (3, _), (0, _), (1, _), (2, _)]) d_Mo_keeperNow_99 (by decide) rfl ?_
            refine z_iinc (v := nI (i + 1)) (L' := [(6, _), (5, _), (4, _), (3, _), (0, _), (1, _), (2, _)]) 2 d_Mo_keeperNow_101 rfl (nI_1 i) (by decide) rfl ?_
            refine z_goto 23 d_Mo_keeperNow_104 (by decide) ?_
            exact ih_23 (i + 1) (by omega) (by omega)
          · skip
            have hz6 : nI (zcnt (fun i => zst (V (300 + i)) (V (400 + i)) (V (200 + i) 3) ki) i) + 1 = nI (zcnt (fun i => zst (V (300 + i)) (V (400 + i)) (V (200 + i) 3) ki) (i + 1)) := by rw [zcnt_step (f := (fun i => zst (V (300 + i)) (V (400 + i)) (V (200 + i) 3) ki)) ((zb_n0 _).mp c_90)]; exact nI_1 _
            refine z_iconst (v := 1) d_Mo_keeperNow_93 (by decide) ?_
            refine z_goto 98 d_Mo_keeperNow_94 (by decide) ?_
            refine z_iadd d_Mo_keeperNow_98 ?_
            refine z_topv hz6 ?_
            refine z_istore (L' := [(5, _), (4, _), (6, _), (3, _), (0, _), (1, _), (2, _)]) d_Mo_keeperNow_99 (by decide) rfl ?_
            refine z_iinc (v := nI (i + 1)) (L' := [(6, _), (5, _), (4, _), (3, _), (0, _), (1, _), (2, _)]) 2 d_Mo_keeperNow_101 rfl (nI_1 i) (by decide) rfl ?_
            refine z_goto 23 d_Mo_keeperNow_104 (by decide) ?_
            exact ih_23 (i + 1) (by omega) (by omega)
  exact key_23 (ns + 1) 0 (by omega) (by omega)

/-- the cheapest, from the last one down: of those ahead i there are nk - i -/
def zcd (f : Nat → Bool) (p : Nat → Int32) (nk : Nat) : Nat → Nat
  | 0 => 0
  | i + 1 => if f (nk - 1 - i) = true ∧ (zcd f p nk i = 0 ∨ ¬ p (zcd f p nk i - 1) < p (nk - 1 - i)) then nk - 1 - i + 1 else zcd f p nk i
theorem zcd_t {f : Nat → Bool} {p : Nat → Int32} {nk i : Nat} (h : f (nk - 1 - i) = true) (h2 : zcd f p nk i = 0 ∨ ¬ p (zcd f p nk i - 1) < p (nk - 1 - i)) : zcd f p nk (i + 1) = nk - 1 - i + 1 := if_pos ⟨h, h2⟩
theorem zcd_f {f : Nat → Bool} {p : Nat → Int32} {nk i : Nat} (h : f (nk - 1 - i) = false ∨ ¬ (zcd f p nk i = 0 ∨ ¬ p (zcd f p nk i - 1) < p (nk - 1 - i))) : zcd f p nk (i + 1) = zcd f p nk i := if_neg (fun q => h.elim (fun e => by rw [q.1] at e; cases e) (fun e => e q.2))
theorem zcd_le (f : Nat → Bool) (p : Nat → Int32) (nk : Nat) : ∀ i, i ≤ nk → zcd f p nk i ≤ nk
  | 0, _ => Nat.zero_le _
  | i + 1, h => by
    have := zcd_le f p nk i (by omega)
    unfold zcd
    split <;> omega
def zw1 : Nat → Int32
  | 0 => -1
  | b + 1 => nI b
/-- the reference's cheapest n -/
def rbB (f : Nat → Bool) (nk : Nat) (p : Nat → Int32) : Nat → Nat
  | 0 => 0
  | n + 1 => zput (rbB f nk p n) (zcd (fun k => f k && !(rbB f nk p n).testBit k) p nk nk)
theorem rbB_lt {nk : Nat} (hk : nk ≤ 8) (f : Nat → Bool) (p : Nat → Int32) : ∀ n, rbB f nk p n < 512
  | 0 => by show (0 : Nat) < 512; decide
  | n + 1 => (zput_c (rbB_lt hk f p n) (by have := zcd_le (fun k => f k && !(rbB f nk p n).testBit k) p nk nk (Nat.le_refl _); omega)).2
def rno (f : Nat → Bool) (nk : Nat) (p : Nat → Int32) (n : Nat) : Bool := decide (zcd (fun k => f k && !(rbB f nk p n).testBit k) p nk nk = 0)
def rBo (f : Nat → Bool) (nk t : Nat) (p : Nat → Int32) : Int32 := if zany (rno f nk p) t = true then 0 else nI (rbB f nk p t)
def mSeA (V : Nat → Nat → Int32) (nk si t : Nat) : Nat → Int32 := upd (upd (upd (upd (upd (upd (upd (upd (upd (fun _ => 0) 0 (V (200 + si) 0)) 1 (V (200 + si) 1)) 2 (V (200 + si) 2)) 3 (V (200 + si) 3)) 4 (zset (zgd (V (300 + si)) (V (400 + si)) (V (200 + si) 3)) 8)) 5 (zset (zst (V (300 + si)) (V (400 + si)) (V (200 + si) 3)) 8)) 6 (zbc (V (200 + si) 4))) 7 (if rBo (zgd (V (300 + si)) (V (400 + si)) (V (200 + si) 3)) nk t (fun k => V (100 + k) 1) = 0 then -1 else zpri (rBo (zgd (V (300 + si)) (V (400 + si)) (V (200 + si) 3)) nk t (fun k => V (100 + k) 1)) (fun k => V (100 + k) 1) nk)) 8 (rBo (zgd (V (300 + si)) (V (400 + si)) (V (200 + si) 3)) nk t (fun k => V (100 + k) 1))
def rSe (nk ns : Nat) (x w t b : Int32) (V : Nat → Nat → Int32) : Prop := (zin x 0 (nI ns - 1) = false ∧ t = 1) ∨ (∃ si, si < ns ∧ x = nI si ∧ ((zin w 0 8 = false ∧ t = 2) ∨ (∃ q, q < 9 ∧ w = nI q ∧ t = 0 ∧ ∃ t9, 1 ≤ t9 ∧ t9 ≤ 4 ∧ V (200 + si) 0 = nI t9 ∧ b = mSeA V nk si t9 q)))

set_option maxHeartbeats 4000000 in
set_option maxRecDepth 100000 in
theorem m_Mo_priceOfE {g0 : State} {d : zD} {l : Launch} {a0 : Array Value} (hs0 : zS0 d a0 g0) (hst : l.stackTraces = false) {G : zG} {B : Nat → Nat} {V : Nat → Nat → Int32} {nk ns ne ec : Nat} (hM : zM d B V nk ns ne ec G) (set : Int32) : zMet g0 d l y_Mo_priceOf c_Mo_priceOf 4 ((Option.some Jvm.ClassFile.FieldType.int)) 11 0 0 [.ref (B 0), .int set] (G) (zEq (some (.int (zpri set (fun k => V (100 + k) 1) nk))) G) (zNo) := by
  have hnk : nk ≤ 8 := hM.2.1
  have hns : ns ≤ 6 := hM.2.2.1
  have hne : ne ≤ 64 := hM.2.2.2.1
  have hp2 : 2 ^ nk ≤ 256 := Nat.pow_le_pow_right (n := 2) (by decide) hnk
  refine z_entry hs0 hst (by decide) (Nat.le_of_ble_eq_true rfl) (fun p e s m args below meth c => ?_)
  refine z_iconst (v := (nI 0)) d_Mo_priceOf_0 (by decide) ?_
  refine z_istore_n (L' := [(2, _), (0, _), (1, _)]) d_Mo_priceOf_1 rfl (by decide) rfl ?_
  refine z_iconst (v := (nI 0)) d_Mo_priceOf_2 (by decide) ?_
  refine z_istore_n (L' := [(3, _), (2, _), (0, _), (1, _)]) d_Mo_priceOf_3 rfl (by decide) rfl ?_
  have key_4 : ∀ (n : Nat) (i : Nat), nk - i < n → (i ≤ nk) → Z g0 d y_Mo_priceOf c_Mo_priceOf 4 ((Option.some Jvm.ClassFile.FieldType.int)) [] p l e (zR 11 0 0) s m args below meth c (vx_MQ below (zQc g0 d (zEq (some (.int (zpri set (fun k => V (100 + k) 1) nk))) G)) (zXc g0 d (zNo)) args s 0 0 (zA g0)) 0 0 (G) [(3, .int (nI i)), (2, .int (zpri set (fun k => V (100 + k) 1) i)), (0, .ref (B 0)), (1, .int set)] [] 4 := by
    intro n
    induction n with
    | zero => intro i h0; exact absurd h0 (Nat.not_lt_zero _)
    | succ n ih_4 =>
      intro i hm_4 hi
      refine z_iload_n 0 d_Mo_priceOf_4 rfl rfl ?_
      refine z_aload_n 2 d_Mo_priceOf_5 rfl rfl ?_
      refine z_get zc_Mo 6 (by decide) qF_Mo_16 hM.mo rfl d_Mo_priceOf_6 ?_
      refine z_callF0 (m_AL_size hs0 hst hM.kl) ym_AL_size zF_AL_size qM_Mo_94 zc_AL hM.kl d_Mo_priceOf_9 rfl (Nat.le_of_ble_eq_true rfl) ⟨Nat.zero_le _, Nat.zero_le _⟩ ⟨Nat.le_of_ble_eq_true rfl, Nat.le_of_ble_eq_true rfl⟩ ?_
      refine z_icmp_ge 54 d_Mo_priceOf_14 (by decide) (fun c_14 => ?_) (fun c_14 => ?_)
      · skip
        obtain rfl : nk = i := by
          have := (nI_leI (a := nk) (b := i) (by omega) (by omega)).mp c_14
          omega
        refine z_iload_n 1 d_Mo_priceOf_54 rfl rfl ?_
        exact z_iret rfl (⟨rfl, rfl⟩) (by first | decide | omega) (by first | decide | omega) d_Mo_priceOf_55
      · skip
        have hi6 : i < nk := Nat.lt_of_not_le fun q => c_14 (nI_le q (by omega))
        refine z_iload_n 1 d_Mo_priceOf_17 rfl rfl ?_
        refine z_iload_n 3 d_Mo_priceOf_18 rfl rfl ?_
        refine z_iload_n 0 d_Mo_priceOf_19 rfl rfl ?_
        refine z_callS0 (m_Mo_has hs0 hst set (nI i)) ym_Mo_has qM_Mo_76 qS_Mo_has d_Mo_priceOf_20 rfl (Nat.le_of_ble_eq_true rfl) ⟨Nat.zero_le _, Nat.zero_le _⟩ ⟨Nat.le_of_ble_eq_true rfl, Nat.le_of_ble_eq_true rfl⟩ ?_
        refine z_if_eq 45 d_Mo_priceOf_23 (by decide) (fun c_23 => ?_) (fun c_23 => ?_)
        · skip
          have hz5 : zpri set (fun k => V (100 + k) 1) i + 0 = zpri set (fun k => V (100 + k) 1) (i + 1) := (Int32.add_zero _).trans (zpri_f (p := (fun k => V (100 + k) 1)) (show zbt set i = false from (zb_0 _).mp c_23))
          refine z_iconst (v := 0) d_Mo_priceOf_45 (by decide) ?_
          refine z_iadd d_Mo_priceOf_46 ?_
          refine z_topv hz5 ?_
          refine z_istore_n (L' := [(2, _), (3, _), (0, _), (1, _)]) d_Mo_priceOf_47 rfl (by decide) rfl ?_
          refine z_iinc (v := nI (i + 1)) (L' := [(3, _), (2, _), (0, _), (1, _)]) 1 d_Mo_priceOf_48 rfl (nI_1 i) (by decide) rfl ?_
          refine z_goto 4 d_Mo_priceOf_51 (by decide) ?_
          exact ih_4 (i + 1) (by omega) (by omega)
        · skip
          have hz5 := zpri_t (p := (fun k => V (100 + k) 1)) (show zbt set i = true from (zb_n0 _).mp c_23)
          refine z_aload_n 2 d_Mo_priceOf_26 rfl rfl ?_
          refine z_get zc_Mo 6 (by decide) qF_Mo_16 hM.mo rfl d_Mo_priceOf_27 ?_
          refine z_iload_n 0 d_Mo_priceOf_30 rfl rfl ?_
          refine z_callF0 (m_AL_get hs0 hst (hM.kA hi6) hi6 (if_pos hi6)) ym_AL_get zF_AL_get qM_Mo_51 zc_AL (hM.kA hi6).1 d_Mo_priceOf_31 rfl (Nat.le_of_ble_eq_true rfl) ⟨Nat.zero_le _, Nat.zero_le _⟩ ⟨Nat.le_of_ble_eq_true rfl, Nat.le_of_ble_eq_true rfl⟩ ?_
          refine z_castS zc_MK qK_Mo_57 (hM.ke hi6) d_Mo_priceOf_36 ?_
          refine z_get zc_MK 1 (by decide) qF_Mo_193 (hM.ke hi6) rfl d_Mo_priceOf_39 ?_
          refine z_goto 46 d_Mo_priceOf_42 (by decide) ?_
          refine z_iadd d_Mo_priceOf_46 ?_
          refine z_topv hz5 ?_
          refine z_istore_n (L' := [(2, _), (3, _), (0, _), (1, _)]) d_Mo_priceOf_47 rfl (by decide) rfl ?_
          refine z_iinc (v := nI (i + 1)) (L' := [(3, _), (2, _), (0, _), (1, _)]) 1 d_Mo_priceOf_48 rfl (nI_1 i) (by decide) rfl ?_
          refine z_goto 4 d_Mo_priceOf_51 (by decide) ?_
          exact ih_4 (i + 1) (by omega) (by omega)
  exact key_4 (nk + 1) 0 (by omega) (by omega)
set_option maxHeartbeats 4000000 in
set_option maxRecDepth 100000 in
theorem m_Mo_boughtE {g0 : State} {d : zD} {l : Launch} {a0 : Array Value} (hs0 : zS0 d a0 g0) (hst : l.stackTraces = false) {G : zG} {B : Nat → Nat} {V : Nat → Nat → Int32} {nk ns ne ec : Nat} (hM : zM d B V nk ns ne ec G) {si : Nat} (hsi : si < ns) {t : Nat} (ht : V (200 + si) 0 = nI t) (ht4 : t ≤ 4) : zMet g0 d l y_Mo_bought c_Mo_bought 6 ((Option.some Jvm.ClassFile.FieldType.int)) 11 0 0 [.ref (B 0), .ref (B (200 + si))] (G) (zEq (some (.int (rBo (zgd (V (300 + si)) (V (400 + si)) (V (200 + si) 3)) nk t (fun k => V (100 + k) 1)))) G) (zNo) := by
  have hnk : nk ≤ 8 := hM.2.1
  have hns : ns ≤ 6 := hM.2.2.1
  have hne : ne ≤ 64 := hM.2.2.2.1
  have hp2 : 2 ^ nk ≤ 256 := Nat.pow_le_pow_right (n := 2) (by decide) hnk
  refine z_entry hs0 hst (by decide) (Nat.le_of_ble_eq_true rfl) (fun p e s m args below meth c => ?_)
  refine z_iconst (v := (nI 0)) d_Mo_bought_0 (by decide) ?_
  refine z_istore_n (L' := [(2, _), (0, _), (1, _)]) d_Mo_bought_1 rfl (by decide) rfl ?_
  refine z_iconst (v := (nI 0)) d_Mo_bought_2 (by decide) ?_
  refine z_istore_n (L' := [(3, _), (2, _), (0, _), (1, _)]) d_Mo_bought_3 rfl (by decide) rfl ?_
  have key_4 : ∀ (n : Nat) (i : Nat), t - i < n → (i ≤ t) → (zany (rno (zgd (V (300 + si)) (V (400 + si)) (V (200 + si) 3)) nk (fun k => V (100 + k) 1)) i = false) → Z g0 d y_Mo_bought c_Mo_bought 6 ((Option.some Jvm.ClassFile.FieldType.int)) [] p l e (zR 11 0 0) s m args below meth c (vx_MQ below (zQc g0 d (zEq (some (.int (rBo (zgd (V (300 + si)) (V (400 + si)) (V (200 + si) 3)) nk t (fun k => V (100 + k) 1)))) G)) (zXc g0 d (zNo)) args s 0 0 (zA g0)) 0 0 (G) [(3, .int (nI i)), (2, .int (nI (rbB (zgd (V (300 + si)) (V (400 + si)) (V (200 + si) 3)) nk (fun k => V (100 + k) 1) i))), (0, .ref (B 0)), (1, .ref (B (200 + si)))] [] 4 := by
    intro n
    induction n with
    | zero => intro i h0; exact absurd h0 (Nat.not_lt_zero _)
    | succ n ih_4 =>
      intro i hm_4 hi hy
      have hb9 := rbB_lt hnk (zgd (V (300 + si)) (V (400 + si)) (V (200 + si) 3)) (fun k => V (100 + k) 1) i
      refine z_iload_n 0 d_Mo_bought_4 rfl rfl ?_
      refine z_aload_n 3 d_Mo_bought_5 rfl rfl ?_
      refine z_get zc_MS 0 (by decide) qF_Mo_69 (hM.se hsi).1 rfl d_Mo_bought_6 ?_
      refine z_topv ht ?_
      refine z_icmp_ge 125 d_Mo_bought_9 (by decide) (fun c_9 => ?_) (fun c_9 => ?_)
      · skip
        obtain rfl : t = i := by
          have := (nI_leI (a := t) (b := i) (by omega) (by omega)).mp c_9
          omega
        refine z_iload_n 1 d_Mo_bought_125 rfl rfl ?_
        exact z_iret rfl (⟨by unfold rBo; rw [hy, if_neg (by decide)], rfl⟩) (by first | decide | omega) (by first | decide | omega) d_Mo_bought_126
      · skip
        have hi6 : i < t := Nat.lt_of_not_le fun q => c_9 (nI_le q (by omega))
        refine z_iconst (v := (-1)) d_Mo_bought_12 (by decide) ?_
        refine z_istore (L' := [(4, _), (3, _), (2, _), (0, _), (1, _)]) d_Mo_bought_13 (by decide) rfl ?_
        refine z_aload_n 3 d_Mo_bought_15 rfl rfl ?_
        refine z_get zc_Mo 6 (by decide) qF_Mo_16 hM.mo rfl d_Mo_bought_16 ?_
        refine z_callF0 (m_AL_size hs0 hst hM.kl) ym_AL_size zF_AL_size qM_Mo_94 zc_AL hM.kl d_Mo_bought_19 rfl (Nat.le_of_ble_eq_true rfl) ⟨Nat.zero_le _, Nat.zero_le _⟩ ⟨Nat.le_of_ble_eq_true rfl, Nat.le_of_ble_eq_true rfl⟩ ?_
        refine z_iconst (v := (nI 1)) d_Mo_bought_24 (by decide) ?_
        refine z_isub d_Mo_bought_25 ?_
        refine z_istore (L' := [(5, _), (4, _), (3, _), (2, _), (0, _), (1, _)]) d_Mo_bought_26 (by decide) rfl ?_
        have key_28 : ∀ (n : Nat) (j q9 : Nat), j < n → (j ≤ nk) → (q9 = (zcd (fun k => (zgd (V (300 + si)) (V (400 + si)) (V (200 + si) 3)) k && !(rbB (zgd (V (300 + si)) (V (400 + si)) (V (200 + si) 3)) nk (fun k => V (100 + k) 1) i).testBit k) (fun k => V (100 + k) 1) nk (nk - j))) → Z g0 d y_Mo_bought c_Mo_bought 6 ((Option.some Jvm.ClassFile.FieldType.int)) [] p l e (zR 11 0 0) s m args below meth c (vx_MQ below (zQc g0 d (zEq (some (.int (rBo (zgd (V (300 + si)) (V (400 + si)) (V (200 + si) 3)) nk t (fun k => V (100 + k) 1)))) G)) (zXc g0 d (zNo)) args s 0 0 (zA g0)) 0 0 (G) [(5, .int (nI j - 1)), (4, .int (zw1 q9)), (3, .int (nI i)), (2, .int (nI (rbB (zgd (V (300 + si)) (V (400 + si)) (V (200 + si) 3)) nk (fun k => V (100 + k) 1) i))), (0, .ref (B 0)), (1, .ref (B (200 + si)))] [] 28 := by
          intro n
          induction n with
          | zero => intro j q9 h0; exact absurd h0 (Nat.not_lt_zero _)
          | succ n ih_28 =>
            intro j q9 hm_28 hj hc
            have hle9 : q9 ≤ nk := by rw [hc]; exact zcd_le _ _ nk _ (by omega)
            refine z_iload 0 d_Mo_bought_28 rfl ?_
            refine z_if_lt 104 d_Mo_bought_30 (by decide) (fun c_30 => ?_) (fun c_30 => ?_)
            · skip
              obtain rfl : j = 0 := by
                by_cases h : j = 0
                · exact h
                · exact absurd c_30 (by rw [nI_s1 (by omega) (by omega)]; exact nI_pos (by omega))
              rw [Nat.sub_zero] at hc
              refine z_iload 1 d_Mo_bought_104 rfl ?_
              refine z_iconst (v := (-1)) d_Mo_bought_106 (by decide) ?_
              refine z_icmp_ne 112 d_Mo_bought_107 (by decide) (fun c_107 => ?_) (fun c_107 => ?_)
              · skip
                have hne9 : ¬ (zcd (fun k => (zgd (V (300 + si)) (V (400 + si)) (V (200 + si) 3)) k && !(rbB (zgd (V (300 + si)) (V (400 + si)) (V (200 + si) 3)) nk (fun k => V (100 + k) 1) i).testBit k) (fun k => V (100 + k) 1) nk nk) = 0 := fun e => c_107 (by rw [hc, e]; rfl)
                obtain ⟨b, rfl⟩ : ∃ b, q9 = b + 1 := ⟨q9 - 1, (by have h9 : q9 ≠ 0 := fun e => hne9 (hc.symm.trans e); omega)⟩
                refine z_iload_n 3 d_Mo_bought_112 rfl rfl ?_
                refine z_iconst (v := 1) d_Mo_bought_113 (by decide) ?_
                refine z_iload 1 d_Mo_bought_114 rfl ?_
                refine z_ishl d_Mo_bought_116 ?_
                refine z_ior d_Mo_bought_117 ?_
                refine z_topv (v := nI (rbB (zgd (V (300 + si)) (V (400 + si)) (V (200 + si) 3)) nk (fun k => V (100 + k) 1) (i + 1))) (by rw [show (rbB (zgd (V (300 + si)) (V (400 + si)) (V (200 + si) 3)) nk (fun k => V (100 + k) 1) (i + 1)) = zput (rbB (zgd (V (300 + si)) (V (400 + si)) (V (200 + si) 3)) nk (fun k => V (100 + k) 1) i) (zcd (fun k => (zgd (V (300 + si)) (V (400 + si)) (V (200 + si) 3)) k && !(rbB (zgd (V (300 + si)) (V (400 + si)) (V (200 + si) 3)) nk (fun k => V (100 + k) 1) i).testBit k) (fun k => V (100 + k) 1) nk nk) from rfl, ← hc]; exact (zput_c (b := b + 1) hb9 (by omega)).1) ?_
                refine z_istore_n (L' := [(2, _), (5, _), (4, _), (3, _), (0, _), (1, _)]) d_Mo_bought_118 rfl (by decide) rfl ?_
                refine z_iinc (v := nI (i + 1)) (L' := [(3, _), (2, _), (5, _), (4, _), (0, _), (1, _)]) 3 d_Mo_bought_119 rfl (nI_1 i) (by decide) rfl ?_
                refine z_goto 4 d_Mo_bought_122 (by decide) ?_
                refine z_sub (L' := [(3, _), (2, _), (0, _), (1, _)]) [0, 1, 4, 5] rfl ?_
                exact ih_4 (i + 1) (by omega) (by omega) (zany_f hy (decide_eq_false hne9))
              · skip
                have hc0 : q9 = 0 := by
                  cases q9 with
                  | zero => rfl
                  | succ b => exact absurd c_107 (zSM.n1 b (by omega))
                refine z_iconst (v := 0) d_Mo_bought_110 (by decide) ?_
                exact z_iret rfl (⟨by unfold rBo; rw [if_pos (zany_t (f := rno (zgd (V (300 + si)) (V (400 + si)) (V (200 + si) 3)) nk (fun k => V (100 + k) 1)) (i := i) (decide_eq_true (hc.symm.trans hc0)) t hi6)], rfl⟩) (by first | decide | omega) (by first | decide | omega) d_Mo_bought_111
            · skip
              have hj1 : 1 ≤ j := Nat.pos_of_ne_zero fun e => c_30 (by subst e; decide)
              have hj6 : j - 1 < nk := by omega
              have e1 : nI j - 1 = nI (j - 1) := nI_s1 hj1 (by omega)
              have ek9 : nk - 1 - (nk - j) = j - 1 := by omega
              have ei9 : nk - (j - 1) = nk - j + 1 := by omega
              refine z_aload_n 5 d_Mo_bought_33 rfl rfl ?_
              refine z_iload 0 d_Mo_bought_34 rfl ?_
              refine z_topv e1 ?_
              refine z_callV0 (m_MS_isGood hs0 hst (hM.se hsi) (show j - 1 < 8 by omega)) ym_MS_isGood qM_Mo_159 qI_MS_isGood qV_MS_MS_isGood zc_MS (hM.se hsi).1 d_Mo_bought_36 rfl (Nat.le_of_ble_eq_true rfl) ⟨Nat.zero_le _, Nat.zero_le _⟩ ⟨Nat.le_of_ble_eq_true rfl, Nat.le_of_ble_eq_true rfl⟩ ?_
              refine z_if_eq 98 d_Mo_bought_39 (by decide) (fun c_39 => ?_) (fun c_39 => ?_)
              · skip
                have hff : (fun k => (zgd (V (300 + si)) (V (400 + si)) (V (200 + si) 3)) k && !(rbB (zgd (V (300 + si)) (V (400 + si)) (V (200 + si) 3)) nk (fun k => V (100 + k) 1) i).testBit k) (nk - 1 - (nk - j)) = false := by
                  show ((zgd (V (300 + si)) (V (400 + si)) (V (200 + si) 3)) (nk - 1 - (nk - j)) && _) = false
                  rw [ek9, show (zgd (V (300 + si)) (V (400 + si)) (V (200 + si) 3)) (j - 1) = false from (zb_0 _).mp c_39, Bool.false_and]
                have hzf : q9 = (zcd (fun k => (zgd (V (300 + si)) (V (400 + si)) (V (200 + si) 3)) k && !(rbB (zgd (V (300 + si)) (V (400 + si)) (V (200 + si) 3)) nk (fun k => V (100 + k) 1) i).testBit k) (fun k => V (100 + k) 1) nk (nk - (j - 1))) := by rw [ei9, zcd_f (Or.inl hff)]; exact hc
                refine z_iinc (v := nI (j - 1) - 1) (L' := [(5, _), (4, _), (3, _), (2, _), (0, _), (1, _)]) 0 d_Mo_bought_98 rfl (by rw [z_m1, e1]) (by decide) rfl ?_
                refine z_goto 28 d_Mo_bought_101 (by decide) ?_
                first
                  | exact ih_28 (j - 1) (j - 1 + 1) (by omega) (by omega) hzt
                  | exact ih_28 (j - 1) _ (by omega) (by omega) hzf
              · skip
                refine z_iload_n 3 d_Mo_bought_42 rfl rfl ?_
                refine z_iload 0 d_Mo_bought_43 rfl ?_
                refine z_topv e1 ?_
                refine z_callS0 (m_Mo_has hs0 hst (nI (rbB (zgd (V (300 + si)) (V (400 + si)) (V (200 + si) 3)) nk (fun k => V (100 + k) 1) i)) (nI (j - 1))) ym_Mo_has qM_Mo_76 qS_Mo_has d_Mo_bought_45 rfl (Nat.le_of_ble_eq_true rfl) ⟨Nat.zero_le _, Nat.zero_le _⟩ ⟨Nat.le_of_ble_eq_true rfl, Nat.le_of_ble_eq_true rfl⟩ ?_
                refine z_if_ne 98 d_Mo_bought_48 (by decide) (fun c_48 => ?_) (fun c_48 => ?_)
                · skip
                  have hff : (fun k => (zgd (V (300 + si)) (V (400 + si)) (V (200 + si) 3)) k && !(rbB (zgd (V (300 + si)) (V (400 + si)) (V (200 + si) 3)) nk (fun k => V (100 + k) 1) i).testBit k) (nk - 1 - (nk - j)) = false := by
                    show ((zgd (V (300 + si)) (V (400 + si)) (V (200 + si) 3)) (nk - 1 - (nk - j)) && !(rbB (zgd (V (300 + si)) (V (400 + si)) (V (200 + si) 3)) nk (fun k => V (100 + k) 1) i).testBit (nk - 1 - (nk - j))) = false
                    rw [ek9, show (rbB (zgd (V (300 + si)) (V (400 + si)) (V (200 + si) 3)) nk (fun k => V (100 + k) 1) i).testBit (j - 1) = true from (tb_zbt _ hb9 (j - 1) (by omega)).symm.trans ((zb_n0 _).mp c_48), Bool.not_true, Bool.and_false]
                  have hzf : q9 = (zcd (fun k => (zgd (V (300 + si)) (V (400 + si)) (V (200 + si) 3)) k && !(rbB (zgd (V (300 + si)) (V (400 + si)) (V (200 + si) 3)) nk (fun k => V (100 + k) 1) i).testBit k) (fun k => V (100 + k) 1) nk (nk - (j - 1))) := by rw [ei9, zcd_f (Or.inl hff)]; exact hc
                  refine z_iinc (v := nI (j - 1) - 1) (L' := [(5, _), (4, _), (3, _), (2, _), (0, _), (1, _)]) 0 d_Mo_bought_98 rfl (by rw [z_m1, e1]) (by decide) rfl ?_
                  refine z_goto 28 d_Mo_bought_101 (by decide) ?_
                  first
                    | exact ih_28 (j - 1) (j - 1 + 1) (by omega) (by omega) hzt
                    | exact ih_28 (j - 1) _ (by omega) (by omega) hzf
                · skip
                  have hft : (fun k => (zgd (V (300 + si)) (V (400 + si)) (V (200 + si) 3)) k && !(rbB (zgd (V (300 + si)) (V (400 + si)) (V (200 + si) 3)) nk (fun k => V (100 + k) 1) i).testBit k) (nk - 1 - (nk - j)) = true := by
                    show ((zgd (V (300 + si)) (V (400 + si)) (V (200 + si) 3)) (nk - 1 - (nk - j)) && !(rbB (zgd (V (300 + si)) (V (400 + si)) (V (200 + si) 3)) nk (fun k => V (100 + k) 1) i).testBit (nk - 1 - (nk - j))) = true
                    rw [ek9, show (zgd (V (300 + si)) (V (400 + si)) (V (200 + si) 3)) (j - 1) = true from (zb_n0 _).mp c_39, show (rbB (zgd (V (300 + si)) (V (400 + si)) (V (200 + si) 3)) nk (fun k => V (100 + k) 1) i).testBit (j - 1) = false from (tb_zbt _ hb9 (j - 1) (by omega)).symm.trans ((zb_0 _).mp c_48)]
                    rfl
                  refine z_iload 1 d_Mo_bought_51 rfl ?_
                  refine z_iconst (v := (-1)) d_Mo_bought_53 (by decide) ?_
                  refine z_icmp_eq 94 d_Mo_bought_54 (by decide) (fun c_54 => ?_) (fun c_54 => ?_)
                  · skip
                    have hc0 : q9 = 0 := by
                      cases q9 with
                      | zero => rfl
                      | succ b => exact absurd c_54 (zSM.n1 b (by omega))
                    have hzt : j - 1 + 1 = (zcd (fun k => (zgd (V (300 + si)) (V (400 + si)) (V (200 + si) 3)) k && !(rbB (zgd (V (300 + si)) (V (400 + si)) (V (200 + si) 3)) nk (fun k => V (100 + k) 1) i).testBit k) (fun k => V (100 + k) 1) nk (nk - (j - 1))) := by rw [ei9, zcd_t hft (Or.inl (hc.symm.trans hc0)), ek9]
                    refine z_iload 0 d_Mo_bought_94 rfl ?_
                    refine z_topv e1 ?_
                    refine z_istore (L' := [(4, _), (5, _), (3, _), (2, _), (0, _), (1, _)]) d_Mo_bought_96 (by decide) rfl ?_
                    refine z_iinc (v := nI (j - 1) - 1) (L' := [(5, _), (4, _), (3, _), (2, _), (0, _), (1, _)]) 1 d_Mo_bought_98 rfl (by rw [z_m1, e1]) (by decide) rfl ?_
                    refine z_goto 28 d_Mo_bought_101 (by decide) ?_
                    first
                      | exact ih_28 (j - 1) (j - 1 + 1) (by omega) (by omega) hzt
                      | exact ih_28 (j - 1) _ (by omega) (by omega) hzf
                  · skip
                    obtain ⟨b, rfl⟩ : ∃ b, q9 = b + 1 := ⟨q9 - 1, (by have h9 : q9 ≠ 0 := fun e => c_54 (by rw [e]; rfl); omega)⟩
                    have hb6 : b < nk := by omega
                    refine z_aload_n 4 d_Mo_bought_57 rfl rfl ?_
                    refine z_get zc_Mo 6 (by decide) qF_Mo_16 hM.mo rfl d_Mo_bought_58 ?_
                    refine z_iload 0 d_Mo_bought_61 rfl ?_
                    refine z_topv e1 ?_
                    refine z_callF0 (m_AL_get hs0 hst (hM.kA hj6) hj6 (if_pos hj6)) ym_AL_get zF_AL_get qM_Mo_51 zc_AL (hM.kA hj6).1 d_Mo_bought_63 rfl (Nat.le_of_ble_eq_true rfl) ⟨Nat.zero_le _, Nat.zero_le _⟩ ⟨Nat.le_of_ble_eq_true rfl, Nat.le_of_ble_eq_true rfl⟩ ?_
                    refine z_castS zc_MK qK_Mo_57 (hM.ke hj6) d_Mo_bought_68 ?_
                    refine z_get zc_MK 1 (by decide) qF_Mo_193 (hM.ke hj6) rfl d_Mo_bought_71 ?_
                    refine z_aload_n 4 d_Mo_bought_74 rfl rfl ?_
                    refine z_get zc_Mo 6 (by decide) qF_Mo_16 hM.mo rfl d_Mo_bought_75 ?_
                    refine z_iload 1 d_Mo_bought_78 rfl ?_
                    refine z_topv (v := nI b) rfl ?_
                    refine z_callF0 (m_AL_get hs0 hst (hM.kA hb6) hb6 (if_pos hb6)) ym_AL_get zF_AL_get qM_Mo_51 zc_AL (hM.kA hb6).1 d_Mo_bought_80 rfl (Nat.le_of_ble_eq_true rfl) ⟨Nat.zero_le _, Nat.zero_le _⟩ ⟨Nat.le_of_ble_eq_true rfl, Nat.le_of_ble_eq_true rfl⟩ ?_
                    refine z_castS zc_MK qK_Mo_57 (hM.ke hb6) d_Mo_bought_85 ?_
                    refine z_get zc_MK 1 (by decide) qF_Mo_193 (hM.ke hb6) rfl d_Mo_bought_88 ?_
                    refine z_icmp_gt 98 d_Mo_bought_91 (by decide) (fun c_91 => ?_) (fun c_91 => ?_)
                    · skip
                      have hzf : b + 1 = (zcd (fun k => (zgd (V (300 + si)) (V (400 + si)) (V (200 + si) 3)) k && !(rbB (zgd (V (300 + si)) (V (400 + si)) (V (200 + si) 3)) nk (fun k => V (100 + k) 1) i).testBit k) (fun k => V (100 + k) 1) nk (nk - (j - 1))) := by rw [ei9, zcd_f (Or.inr (fun q => q.elim (fun e => by rw [← hc] at e; cases e) (fun e => e (by rw [← hc, ek9]; exact c_91))))]; exact hc
                      refine z_iinc (v := nI (j - 1) - 1) (L' := [(5, _), (4, _), (3, _), (2, _), (0, _), (1, _)]) 0 d_Mo_bought_98 rfl (by rw [z_m1, e1]) (by decide) rfl ?_
                      refine z_goto 28 d_Mo_bought_101 (by decide) ?_
                      first
                        | exact ih_28 (j - 1) (j - 1 + 1) (by omega) (by omega) hzt
                        | exact ih_28 (j - 1) _ (by omega) (by omega) hzf
                    · skip
                      have hzt : j - 1 + 1 = (zcd (fun k => (zgd (V (300 + si)) (V (400 + si)) (V (200 + si) 3)) k && !(rbB (zgd (V (300 + si)) (V (400 + si)) (V (200 + si) 3)) nk (fun k => V (100 + k) 1) i).testBit k) (fun k => V (100 + k) 1) nk (nk - (j - 1))) := by rw [ei9, zcd_t hft (Or.inr (fun q => c_91 (by rw [← hc, ek9] at q; exact q))), ek9]
                      refine z_iload 0 d_Mo_bought_94 rfl ?_
                      refine z_topv e1 ?_
                      refine z_istore (L' := [(4, _), (5, _), (3, _), (2, _), (0, _), (1, _)]) d_Mo_bought_96 (by decide) rfl ?_
                      refine z_iinc (v := nI (j - 1) - 1) (L' := [(5, _), (4, _), (3, _), (2, _), (0, _), (1, _)]) 1 d_Mo_bought_98 rfl (by rw [z_m1, e1]) (by decide) rfl ?_
                      refine z_goto 28 d_Mo_bought_101 (by decide) ?_
                      first
                        | exact ih_28 (j - 1) (j - 1 + 1) (by omega) (by omega) hzt
                        | exact ih_28 (j - 1) _ (by omega) (by omega) hzf
        exact key_28 (nk + 1) nk 0 (by omega) (by omega) (by rw [Nat.sub_self]; rfl)
  exact key_4 (t + 1) 0 (by omega) (by omega) rfl
set_option maxHeartbeats 4000000 in
set_option maxRecDepth 100000 in
theorem m_Mo_secretNowE {g0 : State} {d : zD} {l : Launch} {a0 : Array Value} (hs0 : zS0 d a0 g0) (hst : l.stackTraces = false) {G : zG} {B : Nat → Nat} {V : Nat → Nat → Int32} {nk ns ne ec : Nat} (hM : zM d B V nk ns ne ec G) {si : Nat} (hsi : si < ns) {w : Nat} (hw : w < 9) {t : Nat} (ht : V (200 + si) 0 = nI t) (ht4 : t ≤ 4) {f9 : Nat} (hf9 : f9 < 512) (ef9 : V (200 + si) 4 = nI f9) : zMet g0 d l y_Mo_secretNow c_Mo_secretNow 6 ((Option.some Jvm.ClassFile.FieldType.int)) 12 1 9 [.ref (B 0), .int (nI si), .int (nI w)] (G) (fun r G1 => r = some (.int (mSeA V nk si t w)) ∧ zM d B V nk ns ne ec G1 ∧ mFr B nk ns ne G G1) (zNo) := by
  have hnk : nk ≤ 8 := hM.2.1
  have hns : ns ≤ 6 := hM.2.2.1
  have hne : ne ≤ 64 := hM.2.2.2.1
  have hp2 : 2 ^ nk ≤ 256 := Nat.pow_le_pow_right (n := 2) (by decide) hnk
  refine z_entry hs0 hst (by decide) (Nat.le_of_ble_eq_true rfl) (fun p e s m args below meth c => ?_)
  refine z_aload_n 0 d_Mo_secretNow_0 rfl rfl ?_
  refine z_get zc_Mo 7 (by decide) qF_Mo_20 hM.mo rfl d_Mo_secretNow_1 ?_
  refine z_iload_n 1 d_Mo_secretNow_4 rfl rfl ?_
  refine z_callF0 (m_AL_get hs0 hst (hM.sA hsi) hsi (if_pos hsi)) ym_AL_get zF_AL_get qM_Mo_51 zc_AL (hM.sA hsi).1 d_Mo_secretNow_5 rfl (Nat.le_of_ble_eq_true rfl) ⟨by decide, by decide⟩ ⟨Nat.le_of_ble_eq_true rfl, Nat.le_of_ble_eq_true rfl⟩ ?_
  refine z_castS zc_MS qK_Mo_47 (hM.se hsi).1 d_Mo_secretNow_10 ?_
  refine z_astore_n (L' := [(3, _), (0, _), (1, _), (2, _)]) d_Mo_secretNow_13 rfl (by decide) rfl ?_
  refine z_aload_n 1 d_Mo_secretNow_14 rfl rfl ?_
  refine z_aload_n 0 d_Mo_secretNow_15 rfl rfl ?_
  refine z_callV0 ((m_Mo_boughtE hs0 hst hM hsi ht ht4)) ym_Mo_bought qM_Mo_203 qI_Mo_bought qV_Mo_Mo_bought zc_Mo hM.mo d_Mo_secretNow_16 rfl (Nat.le_of_ble_eq_true rfl) ⟨by decide, by decide⟩ ⟨Nat.le_of_ble_eq_true rfl, Nat.le_of_ble_eq_true rfl⟩ ?_
  refine z_istore (L' := [(4, _), (3, _), (0, _), (1, _), (2, _)]) d_Mo_secretNow_19 (by decide) rfl ?_
  refine z_bipush (v := 9) d_Mo_secretNow_21 (by decide) ?_
  refine z_newaI 9 qA_int (by decide) rfl (by decide) ⟨by decide, by decide⟩ d_Mo_secretNow_23 (fun a ha hab => ?_)
  have hMo : ∀ w, zM d B V nk ns ne ec (zu G a w) := fun w => hM.out (hM.nn_ ha)
  refine z_dup d_Mo_secretNow_25 rfl ?_
  refine z_iconst (v := (nI 0)) d_Mo_secretNow_26 (by decide) ?_
  refine z_aload_n 1 d_Mo_secretNow_27 rfl rfl ?_
  refine z_get zc_MS 0 (by decide) qF_Mo_69 ((hMo _).se hsi).1 rfl d_Mo_secretNow_28 ?_
  refine z_iastN zu_s (show 0 < 9 by decide) (by decide) d_Mo_secretNow_31 ?_
  refine z_one ?_
  refine z_dup d_Mo_secretNow_32 rfl ?_
  refine z_iconst (v := (nI 1)) d_Mo_secretNow_33 (by decide) ?_
  refine z_aload_n 1 d_Mo_secretNow_34 rfl rfl ?_
  refine z_get zc_MS 1 (by decide) qF_Mo_99 ((hMo _).se hsi).1 rfl d_Mo_secretNow_35 ?_
  refine z_iastN zu_s (show 1 < 9 by decide) (by decide) d_Mo_secretNow_38 ?_
  refine z_one ?_
  refine z_dup d_Mo_secretNow_39 rfl ?_
  refine z_iconst (v := (nI 2)) d_Mo_secretNow_40 (by decide) ?_
  refine z_aload_n 1 d_Mo_secretNow_41 rfl rfl ?_
  refine z_get zc_MS 2 (by decide) qF_Mo_105 ((hMo _).se hsi).1 rfl d_Mo_secretNow_42 ?_
  refine z_iastN zu_s (show 2 < 9 by decide) (by decide) d_Mo_secretNow_45 ?_
  refine z_one ?_
  refine z_dup d_Mo_secretNow_46 rfl ?_
  refine z_iconst (v := (nI 3)) d_Mo_secretNow_47 (by decide) ?_
  refine z_aload_n 1 d_Mo_secretNow_48 rfl rfl ?_
  refine z_get zc_MS 3 (by decide) qF_Mo_153 ((hMo _).se hsi).1 rfl d_Mo_secretNow_49 ?_
  refine z_iastN zu_s (show 3 < 9 by decide) (by decide) d_Mo_secretNow_52 ?_
  refine z_one ?_
  refine z_dup d_Mo_secretNow_53 rfl ?_
  refine z_iconst (v := (nI 4)) d_Mo_secretNow_54 (by decide) ?_
  refine z_aload_n 1 d_Mo_secretNow_55 rfl rfl ?_
  refine z_callV0 (m_MS_good hs0 hst ((hMo _).se hsi)) ym_MS_good qM_Mo_62 qI_MS_good qV_MS_MS_good zc_MS ((hMo _).se hsi).1 d_Mo_secretNow_56 rfl (Nat.le_of_ble_eq_true rfl) ⟨by decide, by decide⟩ ⟨Nat.le_of_ble_eq_true rfl, Nat.le_of_ble_eq_true rfl⟩ ?_
  refine z_iastN zu_s (show 4 < 9 by decide) (by decide) d_Mo_secretNow_59 ?_
  refine z_one ?_
  refine z_dup d_Mo_secretNow_60 rfl ?_
  refine z_iconst (v := (nI 5)) d_Mo_secretNow_61 (by decide) ?_
  refine z_aload_n 1 d_Mo_secretNow_62 rfl rfl ?_
  refine z_callV0 (m_MS_stale hs0 hst ((hMo _).se hsi)) ym_MS_stale qM_Mo_156 qI_MS_stale qV_MS_MS_stale zc_MS ((hMo _).se hsi).1 d_Mo_secretNow_63 rfl (Nat.le_of_ble_eq_true rfl) ⟨by decide, by decide⟩ ⟨Nat.le_of_ble_eq_true rfl, Nat.le_of_ble_eq_true rfl⟩ ?_
  refine z_iastN zu_s (show 5 < 9 by decide) (by decide) d_Mo_secretNow_66 ?_
  refine z_one ?_
  refine z_dup d_Mo_secretNow_67 rfl ?_
  refine z_bipush (v := (nI 6)) d_Mo_secretNow_68 (by decide) ?_
  refine z_aload_n 1 d_Mo_secretNow_70 rfl rfl ?_
  refine z_get zc_MS 4 (by decide) qF_Mo_108 ((hMo _).se hsi).1 rfl d_Mo_secretNow_71 ?_
  refine z_topv ef9 ?_
  refine z_callS0 ((m_Mo_size hs0 hst (nn := f9) (by omega))) ym_Mo_size qM_Mo_66 qS_Mo_size d_Mo_secretNow_74 rfl (Nat.le_of_ble_eq_true rfl) ⟨by decide, by decide⟩ ⟨Nat.le_of_ble_eq_true rfl, Nat.le_of_ble_eq_true rfl⟩ ?_
  refine z_topv (v := zbc (V (200 + si) 4)) (by rw [ef9]; exact (zbc_512 f9 hf9).symm) ?_
  refine z_iastN zu_s (show 6 < 9 by decide) (by decide) d_Mo_secretNow_77 ?_
  refine z_one ?_
  refine z_dup d_Mo_secretNow_78 rfl ?_
  refine z_bipush (v := (nI 7)) d_Mo_secretNow_79 (by decide) ?_
  refine z_iload 0 d_Mo_secretNow_81 rfl ?_
  refine z_if_ne 90 d_Mo_secretNow_83 (by decide) (fun c_83 => ?_) (fun c_83 => ?_)
  · skip
    refine z_aload_n 2 d_Mo_secretNow_90 rfl rfl ?_
    refine z_iload 0 d_Mo_secretNow_91 rfl ?_
    refine z_callV1 ((m_Mo_priceOfE hs0 hst (hMo _) _)) ym_Mo_priceOf qM_Mo_207 qI_Mo_priceOf qV_Mo_Mo_priceOf zc_Mo (hMo _).mo d_Mo_secretNow_93 rfl (Nat.le_of_ble_eq_true rfl) ⟨by decide, by decide⟩ ⟨Nat.le_of_ble_eq_true rfl, Nat.le_of_ble_eq_true rfl⟩ ?_
    refine z_iastN zu_s (show 7 < 9 by decide) (by decide) d_Mo_secretNow_96 ?_
    refine z_one ?_
    refine z_dup d_Mo_secretNow_97 rfl ?_
    refine z_bipush (v := (nI 8)) d_Mo_secretNow_98 (by decide) ?_
    refine z_iload 0 d_Mo_secretNow_100 rfl ?_
    refine z_iastN zu_s (show 8 < 9 by decide) (by decide) d_Mo_secretNow_102 ?_
    refine z_one ?_
    refine z_astore (L' := [(5, _), (4, _), (3, _), (0, _), (1, _), (2, _)]) d_Mo_secretNow_103 (by decide) rfl ?_
    refine z_aload 0 d_Mo_secretNow_105 rfl ?_
    refine z_iload_n 5 d_Mo_secretNow_107 rfl rfl ?_
    refine z_ialdN zu_s (hw) (by decide) d_Mo_secretNow_108 ?_
    exact z_iret rfl (⟨by unfold mSeA; first | rw [if_neg c_83] | rw [if_pos c_83], hMo _, zFr.new ha⟩) (by first | decide | omega) (by first | decide | omega) d_Mo_secretNow_109
  · skip
    refine z_iconst (v := (-1)) d_Mo_secretNow_86 (by decide) ?_
    refine z_goto 96 d_Mo_secretNow_87 (by decide) ?_
    refine z_iastN zu_s (show 7 < 9 by decide) (by decide) d_Mo_secretNow_96 ?_
    refine z_one ?_
    refine z_dup d_Mo_secretNow_97 rfl ?_
    refine z_bipush (v := (nI 8)) d_Mo_secretNow_98 (by decide) ?_
    refine z_iload 0 d_Mo_secretNow_100 rfl ?_
    refine z_iastN zu_s (show 8 < 9 by decide) (by decide) d_Mo_secretNow_102 ?_
    refine z_one ?_
    refine z_astore (L' := [(5, _), (4, _), (3, _), (0, _), (1, _), (2, _)]) d_Mo_secretNow_103 (by decide) rfl ?_
    refine z_aload 0 d_Mo_secretNow_105 rfl ?_
    refine z_iload_n 5 d_Mo_secretNow_107 rfl rfl ?_
    refine z_ialdN zu_s (hw) (by decide) d_Mo_secretNow_108 ?_
    exact z_iret rfl (⟨by unfold mSeA; first | rw [if_neg c_83] | rw [if_pos c_83], hMo _, zFr.new ha⟩) (by first | decide | omega) (by first | decide | omega) d_Mo_secretNow_109
set_option maxHeartbeats 4000000 in
set_option maxRecDepth 100000 in
theorem m_Mo_shareNowE {g0 : State} {d : zD} {l : Launch} {a0 : Array Value} (hs0 : zS0 d a0 g0) (hst : l.stackTraces = false) {G : zG} {B : Nat → Nat} {V : Nat → Nat → Int32} {nk ns ne ec : Nat} (hM : zM d B V nk ns ne ec G) {si : Nat} (hsi : si < ns) {ki : Nat} (hki : ki < nk) (w : Int32) : zMet g0 d l y_Mo_shareNow c_Mo_shareNow 5 ((Option.some Jvm.ClassFile.FieldType.int)) 12 0 0 [.ref (B 0), .int (nI si), .int (nI ki), .int w] (G) (zEq (some (.int (qSm V si ki w))) G) (zNo) := by
  have hnk : nk ≤ 8 := hM.2.1
  have hns : ns ≤ 6 := hM.2.2.1
  have hne : ne ≤ 64 := hM.2.2.2.1
  have hp2 : 2 ^ nk ≤ 256 := Nat.pow_le_pow_right (n := 2) (by decide) hnk
  have hj : ki < 8 := by omega
  refine z_entry hs0 hst (by decide) (Nat.le_of_ble_eq_true rfl) (fun p e s m args below meth c => ?_)
  refine z_aload_n 0 d_Mo_shareNow_0 rfl rfl ?_
  refine z_get zc_Mo 7 (by decide) qF_Mo_20 hM.mo rfl d_Mo_shareNow_1 ?_
  refine z_iload_n 1 d_Mo_shareNow_4 rfl rfl ?_
  refine z_callF0 (m_AL_get hs0 hst (hM.sA hsi) hsi (if_pos hsi)) ym_AL_get zF_AL_get qM_Mo_51 zc_AL (hM.sA hsi).1 d_Mo_shareNow_5 rfl (Nat.le_of_ble_eq_true rfl) ⟨Nat.zero_le _, Nat.zero_le _⟩ ⟨Nat.le_of_ble_eq_true rfl, Nat.le_of_ble_eq_true rfl⟩ ?_
  refine z_castS zc_MS qK_Mo_47 (hM.se hsi).1 d_Mo_shareNow_10 ?_
  refine z_astore (L' := [(4, _), (0, _), (1, _), (2, _), (3, _)]) d_Mo_shareNow_13 (by decide) rfl ?_
  refine z_iload_n 4 d_Mo_shareNow_15 rfl rfl ?_
  refine z_if_ne 29 d_Mo_shareNow_16 (by decide) (fun c_16 => ?_) (fun c_16 => ?_)
  · skip
    refine z_iload_n 4 d_Mo_shareNow_29 rfl rfl ?_
    refine z_iconst (v := 1) d_Mo_shareNow_30 (by decide) ?_
    refine z_icmp_ne 44 d_Mo_shareNow_31 (by decide) (fun c_31 => ?_) (fun c_31 => ?_)
    · skip
      refine z_aload 0 d_Mo_shareNow_44 rfl ?_
      refine z_get zc_MS 6 (by decide) qF_Mo_46 (hM.se hsi).1 rfl d_Mo_shareNow_46 ?_
      refine z_iload_n 3 d_Mo_shareNow_49 rfl rfl ?_
      refine z_ialdN (hM.se hsi).2.1 (hj) (by decide) d_Mo_shareNow_50 ?_
      refine z_iconst (v := (-1)) d_Mo_shareNow_51 (by decide) ?_
      refine z_icmp_ne 59 d_Mo_shareNow_52 (by decide) (fun c_52 => ?_) (fun c_52 => ?_)
      · skip
        refine z_aload_n 1 d_Mo_shareNow_59 rfl rfl ?_
        refine z_aload 0 d_Mo_shareNow_60 rfl ?_
        refine z_iload_n 3 d_Mo_shareNow_62 rfl rfl ?_
        refine z_callV0 (m_Mo_gives hs0 hst hM hsi hki) ym_Mo_gives qM_Mo_80 qI_Mo_gives qV_Mo_Mo_gives zc_Mo hM.mo d_Mo_shareNow_63 rfl (Nat.le_of_ble_eq_true rfl) ⟨Nat.zero_le _, Nat.zero_le _⟩ ⟨Nat.le_of_ble_eq_true rfl, Nat.le_of_ble_eq_true rfl⟩ ?_
        exact z_iret rfl (⟨by unfold qSm; first | rw [if_pos c_16] | rw [if_neg c_16, if_pos c_31] | rw [if_neg c_16, if_neg c_31, if_pos c_52] | (rw [if_neg c_16, if_neg c_31, if_neg c_52]; rfl), rfl⟩) (by first | decide | omega) (by first | decide | omega) d_Mo_shareNow_66
      · skip
        refine z_iconst (v := (-1)) d_Mo_shareNow_55 (by decide) ?_
        refine z_goto 66 d_Mo_shareNow_56 (by decide) ?_
        exact z_iret rfl (⟨by unfold qSm; first | rw [if_pos c_16] | rw [if_neg c_16, if_pos c_31] | rw [if_neg c_16, if_neg c_31, if_pos c_52] | (rw [if_neg c_16, if_neg c_31, if_neg c_52]; rfl), rfl⟩) (by first | decide | omega) (by first | decide | omega) d_Mo_shareNow_66
    · skip
      refine z_aload 0 d_Mo_shareNow_34 rfl ?_
      refine z_get zc_MS 7 (by decide) qF_Mo_140 (hM.se hsi).1 rfl d_Mo_shareNow_36 ?_
      refine z_iload_n 3 d_Mo_shareNow_39 rfl rfl ?_
      refine z_ialdN (hM.se hsi).2.2.1 (hj) (by decide) d_Mo_shareNow_40 ?_
      refine z_goto 66 d_Mo_shareNow_41 (by decide) ?_
      exact z_iret rfl (⟨by unfold qSm; first | rw [if_pos c_16] | rw [if_neg c_16, if_pos c_31] | rw [if_neg c_16, if_neg c_31, if_pos c_52] | (rw [if_neg c_16, if_neg c_31, if_neg c_52]; rfl), rfl⟩) (by first | decide | omega) (by first | decide | omega) d_Mo_shareNow_66
  · skip
    refine z_aload 0 d_Mo_shareNow_19 rfl ?_
    refine z_get zc_MS 6 (by decide) qF_Mo_46 (hM.se hsi).1 rfl d_Mo_shareNow_21 ?_
    refine z_iload_n 3 d_Mo_shareNow_24 rfl rfl ?_
    refine z_ialdN (hM.se hsi).2.1 (hj) (by decide) d_Mo_shareNow_25 ?_
    refine z_goto 66 d_Mo_shareNow_26 (by decide) ?_
    exact z_iret rfl (⟨by unfold qSm; first | rw [if_pos c_16] | rw [if_neg c_16, if_pos c_31] | rw [if_neg c_16, if_neg c_31, if_pos c_52] | (rw [if_neg c_16, if_neg c_31, if_neg c_52]; rfl), rfl⟩) (by first | decide | omega) (by first | decide | omega) d_Mo_shareNow_66

def qWd (V : Nat → Nat → Int32) (nk si g t : Nat) (w : Int32) : Int32 := if w = 0 then nI (zpop 9 (mgr V si g)) else if w = 1 then zb (mlw V nk si (nI (mgr V si g))) else if nI t ≤ nI (zpop 9 (mgr V si g)) then (if w = 5 then nI (zpop 9 (rag (V 7) (mgv V si) (mgr V si g) (rmb (V 7) (mgv V si) t (mgr V si g) (mgr V si g)).1)) else if nI (zpop 9 (zsetN (fun k => (mgr V si g).testBit k && !(rag (V 7) (mgv V si) (mgr V si g) (rmb (V 7) (mgv V si) t (mgr V si g) (mgr V si g)).1).testBit k) 9)) ≤ (nI (zpop 9 (mgr V si g)) - nI t) / 2 then (if w = 2 then 1 else if w = 3 then zth (V 7) (gvs (mgv V si)) (nI (2 * (rmb (V 7) (mgv V si) t (mgr V si g) (mgr V si g)).1)) (nI 0) else nI (mgr V si g) &&& (nI (rag (V 7) (mgv V si) (mgr V si g) (rmb (V 7) (mgv V si) t (mgr V si g) (mgr V si g)).1) ^^^ (-1))) else (if w = 3 then -1 else 0)) else (if w = 3 then -1 else 0)
theorem mlw_k {V V2 : Nat → Nat → Int32} (h : zKp msc V V2) (nk si : Nat) (s : Int32) : mlw V2 nk si s = mlw V nk si s := by
  unfold mlw
  rw [show (fun k => V2 (100 + k) 0) = (fun k => V (100 + k) 0) from funext fun k => by rw [h.r (r := 100 + k) (by omega) (by omega)], h.r (r := 200 + si) (by omega) (by omega), h.r (r := 0) (by decide) (by decide)]
theorem mgr_k {V V2 : Nat → Nat → Int32} (h : zKp msc V V2) (si g : Nat) : mgr V2 si g = mgr V si g := by
  unfold mgr
  rw [h.r (r := 300 + si) (by omega) (by omega), h.r (r := 400 + si) (by omega) (by omega), h.r (r := 200 + si) (by omega) (by omega)]
theorem qWd_k {V V2 : Nat → Nat → Int32} (h : zKp msc V V2) {nk si g t : Nat} {w : Int32} : qWd V2 nk si g t w = qWd V nk si g t w := by
  unfold qWd
  rw [mgr_k h, mlw_k h, h.mg, h.r (r := 7) (by decide) (by decide)]
def rWd (nk ns : Nat) (x set w t b : Int32) (W : Nat → Nat → Int32) : Prop := (zin x 0 (nI ns - 1) = false ∧ t = 1) ∨ (∃ s, s < ns ∧ x = nI s ∧ (((zsetok nk set = false ∨ zin w 0 5 = false) ∧ t = 2) ∨ (∃ g, g < 2 ^ nk ∧ set = nI g ∧ zin w 0 5 = true ∧ t = 0 ∧ ∃ t9, 1 ≤ t9 ∧ t9 ≤ 4 ∧ W (200 + s) 0 = nI t9 ∧ b = qWd W nk s g t9 w)))

set_option maxHeartbeats 4000000 in
set_option maxRecDepth 100000 in
theorem m_Mo_wouldNowE {g0 : State} {d : zD} {l : Launch} {a0 : Array Value} (hs0 : zS0 d a0 g0) (hst : l.stackTraces = false) {G : zG} {B : Nat → Nat} {V : Nat → Nat → Int32} {nk ns ne ec : Nat} (hM : zM d B V nk ns ne ec G) {si : Nat} (hsi : si < ns) {g : Nat} (hg : g < 2 ^ nk) (w : Int32) {iv : Nat → Nat} (hok : mOk V nk ns iv) : zMet g0 d l y_Mo_wouldNow c_Mo_wouldNow 9 ((Option.some Jvm.ClassFile.FieldType.int)) 15 0 0 [.ref (B 0), .int (nI si), .int (nI g), .int w] (G) (mTs d B nk ns ne ec V G (fun r => ∃ t, 1 ≤ t ∧ t ≤ 4 ∧ V (200 + si) 0 = nI t ∧ r = some (.int (qWd V nk si g t w)))) (zNo) := by
  have hnk : nk ≤ 8 := hM.2.1
  have hns : ns ≤ 6 := hM.2.2.1
  have hne : ne ≤ 64 := hM.2.2.2.1
  have hp2 : 2 ^ nk ≤ 256 := Nat.pow_le_pow_right (n := 2) (by decide) hnk
  have hsm := mgr_sm (s := g) hok hsi
  have hgq : mgr V si g < 2 ^ nk := Nat.lt_of_le_of_lt (mgr_le (by omega)) hg
  obtain ⟨t, ht1, ht4, ht⟩ := hM.tn hsi
  have hl9 := mgr_lt (V := V) (si := si) (s := g)
  have hra9 := rag_lt (inv := V 7) (h := mgv V si) (g := mgr V si g) (q := (rmb (V 7) (mgv V si) t (mgr V si g) (mgr V si g)).1)
  have hb1 : (rmb (V 7) (mgv V si) t (mgr V si g) (mgr V si g)).1 < 2 ^ nk := by have := (rmb_in (inv := V 7) (h := mgv V si) (t := t) (g := mgr V si g) (mgr V si g)).1; omega
  have hsb : zSm (mgv V si) (rmb (V 7) (mgv V si) t (mgr V si g) (mgr V si g)).1 := hsm.sub (fun k hk h1 => rmb_sub hl9 hl9 hk h1)
  have han9 := (zset_N (fun k => (mgr V si g).testBit k && !(rag (V 7) (mgv V si) (mgr V si g) (rmb (V 7) (mgv V si) t (mgr V si g) (mgr V si g)).1).testBit k) 9 (by decide)).2
  refine z_entry hs0 hst (by decide) (Nat.le_of_ble_eq_true rfl) (fun p e s m args below meth c => ?_)
  refine z_aload_n 0 d_Mo_wouldNow_0 rfl rfl ?_
  refine z_get zc_Mo 7 (by decide) qF_Mo_20 hM.mo rfl d_Mo_wouldNow_1 ?_
  refine z_iload_n 1 d_Mo_wouldNow_4 rfl rfl ?_
  refine z_callF0 (m_AL_get hs0 hst (hM.sA hsi) hsi (if_pos hsi)) ym_AL_get zF_AL_get qM_Mo_51 zc_AL (hM.sA hsi).1 d_Mo_wouldNow_5 rfl (Nat.le_of_ble_eq_true rfl) ⟨Nat.zero_le _, Nat.zero_le _⟩ ⟨Nat.le_of_ble_eq_true rfl, Nat.le_of_ble_eq_true rfl⟩ ?_
  refine z_castS zc_MS qK_Mo_47 (hM.se hsi).1 d_Mo_wouldNow_10 ?_
  refine z_astore (L' := [(4, _), (0, _), (1, _), (2, _), (3, _)]) d_Mo_wouldNow_13 (by decide) rfl ?_
  refine z_aload_n 1 d_Mo_wouldNow_15 rfl rfl ?_
  refine z_aload 0 d_Mo_wouldNow_16 rfl ?_
  refine z_iload_n 3 d_Mo_wouldNow_18 rfl rfl ?_
  refine z_callV0 ((m_Mo_groupE hs0 hst hM hsi (g := g) (by omega))) ym_Mo_group qM_Mo_150 qI_Mo_group qV_Mo_Mo_group zc_Mo hM.mo d_Mo_wouldNow_19 rfl (Nat.le_of_ble_eq_true rfl) ⟨Nat.zero_le _, Nat.zero_le _⟩ ⟨Nat.le_of_ble_eq_true rfl, Nat.le_of_ble_eq_true rfl⟩ ?_
  refine z_istore (L' := [(5, _), (4, _), (0, _), (1, _), (2, _), (3, _)]) d_Mo_wouldNow_22 (by decide) rfl ?_
  refine z_iload_n 5 d_Mo_wouldNow_24 rfl rfl ?_
  refine z_if_ne 34 d_Mo_wouldNow_25 (by decide) (fun c_25 => ?_) (fun c_25 => ?_)
  · skip
    refine z_iload_n 5 d_Mo_wouldNow_34 rfl rfl ?_
    refine z_iconst (v := 1) d_Mo_wouldNow_35 (by decide) ?_
    refine z_icmp_ne 56 d_Mo_wouldNow_36 (by decide) (fun c_36 => ?_) (fun c_36 => ?_)
    · skip
      refine z_iload 0 d_Mo_wouldNow_56 rfl ?_
      refine z_callS0 ((m_Mo_size hs0 hst (nn := mgr V si g) (by omega))) ym_Mo_size qM_Mo_66 qS_Mo_size d_Mo_wouldNow_58 rfl (Nat.le_of_ble_eq_true rfl) ⟨Nat.zero_le _, Nat.zero_le _⟩ ⟨Nat.le_of_ble_eq_true rfl, Nat.le_of_ble_eq_true rfl⟩ ?_
      refine z_aload 1 d_Mo_wouldNow_61 rfl ?_
      refine z_get zc_MS 0 (by decide) qF_Mo_69 (hM.se hsi).1 rfl d_Mo_wouldNow_63 ?_
      refine z_topv ht ?_
      refine z_icmp_ge 80 d_Mo_wouldNow_66 (by decide) (fun c_66 => ?_) (fun c_66 => ?_)
      · skip
        refine z_aload_n 2 d_Mo_wouldNow_80 rfl rfl ?_
        refine z_aload 1 d_Mo_wouldNow_81 rfl ?_
        refine z_iload 0 d_Mo_wouldNow_83 rfl ?_
        refine z_callVp0 ((m_Mo_bestE hs0 hst hM hsi hgq hsm hok.1 ht ht4)) ym_Mo_best qM_Mo_91 qI_Mo_best qV_Mo_Mo_best zc_Mo hM.mo d_Mo_wouldNow_85 rfl (Nat.le_of_ble_eq_true rfl) ⟨Nat.zero_le _, Nat.zero_le _⟩ ⟨Nat.le_of_ble_eq_true rfl, Nat.le_of_ble_eq_true rfl⟩ (fun r_85 G_85 hp_85 => ?_)
        obtain ⟨hr_85, V1, hM1, hK1, hF1⟩ := hp_85
        obtain rfl : r_85 = _ := hr_85
        refine z_istore (L' := [(6, _), (5, _), (4, _), (0, _), (1, _), (2, _), (3, _)]) d_Mo_wouldNow_88 (by decide) rfl ?_
        refine z_aload_n 3 d_Mo_wouldNow_90 rfl rfl ?_
        refine z_aload 2 d_Mo_wouldNow_91 rfl ?_
        refine z_iload 1 d_Mo_wouldNow_93 rfl ?_
        refine z_iload 0 d_Mo_wouldNow_95 rfl ?_
        refine z_callVp0 ((m_Mo_agreeingE hs0 hst hM1 hsi hgq hb1 (by rw [hK1.mg]; exact hsb) (by rw [hK1.r (r := 7) (by decide) (by decide)]; exact hok.1))) ym_Mo_agreeing qM_Mo_72 qI_Mo_agreeing qV_Mo_Mo_agreeing zc_Mo hM1.mo d_Mo_wouldNow_97 rfl (Nat.le_of_ble_eq_true rfl) ⟨Nat.zero_le _, Nat.zero_le _⟩ ⟨Nat.le_of_ble_eq_true rfl, Nat.le_of_ble_eq_true rfl⟩ (fun r_97 G_97 hp_97 => ?_)
        obtain ⟨hr_97, V2, hM2, hK2, hF2⟩ := hp_97
        rw [hK1.mg, hK1.r (r := 7) (by decide) (by decide)] at hr_97
        obtain rfl : r_97 = _ := hr_97
        replace hK2 := hK1.tr hK2
        replace hF2 := hF1.tr hF2
        refine z_istore (L' := [(7, _), (6, _), (5, _), (4, _), (0, _), (1, _), (2, _), (3, _)]) d_Mo_wouldNow_100 (by decide) rfl ?_
        refine z_iload 2 d_Mo_wouldNow_102 rfl ?_
        refine z_iload 0 d_Mo_wouldNow_104 rfl ?_
        refine z_iconst (v := (-1)) d_Mo_wouldNow_106 (by decide) ?_
        refine z_ixor d_Mo_wouldNow_107 ?_
        refine z_iand d_Mo_wouldNow_108 ?_
        refine z_topv (nI_andn (by omega) (by omega)) ?_
        refine z_callS0 ((m_Mo_size hs0 hst (nn := zsetN (fun k => (mgr V si g).testBit k && !(rag (V 7) (mgv V si) (mgr V si g) (rmb (V 7) (mgv V si) t (mgr V si g) (mgr V si g)).1).testBit k) 9) (by omega))) ym_Mo_size qM_Mo_66 qS_Mo_size d_Mo_wouldNow_109 rfl (Nat.le_of_ble_eq_true rfl) ⟨Nat.zero_le _, Nat.zero_le _⟩ ⟨Nat.le_of_ble_eq_true rfl, Nat.le_of_ble_eq_true rfl⟩ ?_
        refine z_iload 2 d_Mo_wouldNow_112 rfl ?_
        refine z_callS0 ((m_Mo_size hs0 hst (nn := mgr V si g) (by omega))) ym_Mo_size qM_Mo_66 qS_Mo_size d_Mo_wouldNow_114 rfl (Nat.le_of_ble_eq_true rfl) ⟨Nat.zero_le _, Nat.zero_le _⟩ ⟨Nat.le_of_ble_eq_true rfl, Nat.le_of_ble_eq_true rfl⟩ ?_
        refine z_aload 3 d_Mo_wouldNow_117 rfl ?_
        refine z_get zc_MS 0 (by decide) qF_Mo_69 (hM2.se hsi).1 rfl d_Mo_wouldNow_119 ?_
        refine z_topv (v := nI t) (by rw [hK2.r (r := 200 + si) (by omega) (by omega), ht]) ?_
        refine z_isub d_Mo_wouldNow_122 ?_
        refine z_iconst (v := 2) d_Mo_wouldNow_123 (by decide) ?_
        refine z_idiv d_Mo_wouldNow_124 (by decide) ?_
        refine z_icmp_gt 132 d_Mo_wouldNow_125 (by decide) (fun c_125 => ?_) (fun c_125 => ?_)
        · skip
          refine z_iconst (v := 0) d_Mo_wouldNow_132 (by decide) ?_
          refine z_istore (L' := [(8, _), (7, _), (6, _), (5, _), (4, _), (0, _), (1, _), (2, _), (3, _)]) d_Mo_wouldNow_133 (by decide) rfl ?_
          refine z_iload_n 8 d_Mo_wouldNow_135 rfl rfl ?_
          refine z_iconst (v := 5) d_Mo_wouldNow_136 (by decide) ?_
          refine z_icmp_ne 146 d_Mo_wouldNow_137 (by decide) (fun c_137 => ?_) (fun c_137 => ?_)
          · skip
            refine z_iload 0 d_Mo_wouldNow_146 rfl ?_
            refine z_if_ne 162 d_Mo_wouldNow_148 (by decide) (fun c_148 => ?_) (fun c_148 => ?_)
            · skip
              refine z_iload_n 8 d_Mo_wouldNow_162 rfl rfl ?_
              refine z_iconst (v := 2) d_Mo_wouldNow_163 (by decide) ?_
              refine z_icmp_ne 171 d_Mo_wouldNow_164 (by decide) (fun c_164 => ?_) (fun c_164 => ?_)
              · skip
                refine z_iload_n 8 d_Mo_wouldNow_171 rfl rfl ?_
                refine z_iconst (v := 3) d_Mo_wouldNow_172 (by decide) ?_
                refine z_icmp_ne 188 d_Mo_wouldNow_173 (by decide) (fun c_173 => ?_) (fun c_173 => ?_)
                · skip
                  refine z_iload 3 d_Mo_wouldNow_188 rfl ?_
                  refine z_iload 1 d_Mo_wouldNow_190 rfl ?_
                  refine z_iconst (v := (-1)) d_Mo_wouldNow_192 (by decide) ?_
                  refine z_ixor d_Mo_wouldNow_193 ?_
                  refine z_iand d_Mo_wouldNow_194 ?_
                  exact z_iret rfl (by first | (exfalso; revert c_148; decide) | (have hq9 := hM3; exact ⟨⟨t, ht1, ht4, ht, by unfold qWd; rw [if_neg c_25, if_neg c_36, if_pos c_66, if_neg c_137, if_pos (Int32.not_lt.mp c_125), if_neg c_164, if_pos c_173]⟩, V3, hM3, hK2.tr hK3, hF2.tr hF3⟩) | exact ⟨⟨t, ht1, ht4, ht, by unfold qWd; first | rw [if_neg c_25, if_neg c_36, if_pos c_66, if_neg c_137, if_pos (Int32.not_lt.mp c_125), if_pos c_164] | rw [if_neg c_25, if_neg c_36, if_pos c_66, if_neg c_137, if_pos (Int32.not_lt.mp c_125), if_neg c_164, if_neg c_173]⟩, V2, hM2, hK2, hF2⟩) (by first | decide | omega) (by first | decide | omega) d_Mo_wouldNow_195
                · skip
                  refine z_aload_n 5 d_Mo_wouldNow_176 rfl rfl ?_
                  refine z_aload 4 d_Mo_wouldNow_177 rfl ?_
                  refine z_iload 2 d_Mo_wouldNow_179 rfl ?_
                  refine z_iconst (v := (nI 0)) d_Mo_wouldNow_181 (by decide) ?_
                  refine z_callVp0 ((m_Mo_alongE hs0 hst hM2 hsi hb1 (x := 0) (by decide) (by rw [hK2.mg]; exact hsb) (by rw [hK2.r (r := 7) (by decide) (by decide)]; exact hok.1))) ym_Mo_along qM_Mo_88 qI_Mo_along qV_Mo_Mo_along zc_Mo hM2.mo d_Mo_wouldNow_182 rfl (Nat.le_of_ble_eq_true rfl) ⟨Nat.zero_le _, Nat.zero_le _⟩ ⟨Nat.le_of_ble_eq_true rfl, Nat.le_of_ble_eq_true rfl⟩ (fun r_182 G_182 hp_182 => ?_)
                  obtain ⟨hr_182, V3, hM3, hK3, hF3⟩ := hp_182
                  rw [hK2.mg, hK2.r (r := 7) (by decide) (by decide)] at hr_182
                  obtain rfl : r_182 = _ := hr_182
                  refine z_goto 195 d_Mo_wouldNow_185 (by decide) ?_
                  exact z_iret rfl (by first | (exfalso; revert c_148; decide) | (have hq9 := hM3; exact ⟨⟨t, ht1, ht4, ht, by unfold qWd; rw [if_neg c_25, if_neg c_36, if_pos c_66, if_neg c_137, if_pos (Int32.not_lt.mp c_125), if_neg c_164, if_pos c_173]⟩, V3, hM3, hK2.tr hK3, hF2.tr hF3⟩) | exact ⟨⟨t, ht1, ht4, ht, by unfold qWd; first | rw [if_neg c_25, if_neg c_36, if_pos c_66, if_neg c_137, if_pos (Int32.not_lt.mp c_125), if_pos c_164] | rw [if_neg c_25, if_neg c_36, if_pos c_66, if_neg c_137, if_pos (Int32.not_lt.mp c_125), if_neg c_164, if_neg c_173]⟩, V2, hM2, hK2, hF2⟩) (by first | decide | omega) (by first | decide | omega) d_Mo_wouldNow_195
              · skip
                refine z_iconst (v := 1) d_Mo_wouldNow_167 (by decide) ?_
                refine z_goto 195 d_Mo_wouldNow_168 (by decide) ?_
                exact z_iret rfl (by first | (exfalso; revert c_148; decide) | (have hq9 := hM3; exact ⟨⟨t, ht1, ht4, ht, by unfold qWd; rw [if_neg c_25, if_neg c_36, if_pos c_66, if_neg c_137, if_pos (Int32.not_lt.mp c_125), if_neg c_164, if_pos c_173]⟩, V3, hM3, hK2.tr hK3, hF2.tr hF3⟩) | exact ⟨⟨t, ht1, ht4, ht, by unfold qWd; first | rw [if_neg c_25, if_neg c_36, if_pos c_66, if_neg c_137, if_pos (Int32.not_lt.mp c_125), if_pos c_164] | rw [if_neg c_25, if_neg c_36, if_pos c_66, if_neg c_137, if_pos (Int32.not_lt.mp c_125), if_neg c_164, if_neg c_173]⟩, V2, hM2, hK2, hF2⟩) (by first | decide | omega) (by first | decide | omega) d_Mo_wouldNow_195
            · skip
              refine z_iload_n 8 d_Mo_wouldNow_151 rfl rfl ?_
              refine z_iconst (v := 3) d_Mo_wouldNow_152 (by decide) ?_
              refine z_icmp_ne 160 d_Mo_wouldNow_153 (by decide) (fun c_153 => ?_) (fun c_153 => ?_)
              · skip
                refine z_iconst (v := 0) d_Mo_wouldNow_160 (by decide) ?_
                exact z_iret rfl (by first | (exfalso; revert c_148; decide) | exact ⟨⟨t, ht1, ht4, ht, by unfold qWd; first | rw [if_neg c_25, if_neg c_36, if_pos c_66, if_neg c_137, if_neg (Int32.not_le.mpr c_125), if_pos c_153] | rw [if_neg c_25, if_neg c_36, if_pos c_66, if_neg c_137, if_neg (Int32.not_le.mpr c_125), if_neg c_153]⟩, V2, hM2, hK2, hF2⟩) (by first | decide | omega) (by first | decide | omega) d_Mo_wouldNow_161
              · skip
                refine z_iconst (v := (-1)) d_Mo_wouldNow_156 (by decide) ?_
                refine z_goto 161 d_Mo_wouldNow_157 (by decide) ?_
                exact z_iret rfl (by first | (exfalso; revert c_148; decide) | exact ⟨⟨t, ht1, ht4, ht, by unfold qWd; first | rw [if_neg c_25, if_neg c_36, if_pos c_66, if_neg c_137, if_neg (Int32.not_le.mpr c_125), if_pos c_153] | rw [if_neg c_25, if_neg c_36, if_pos c_66, if_neg c_137, if_neg (Int32.not_le.mpr c_125), if_neg c_153]⟩, V2, hM2, hK2, hF2⟩) (by first | decide | omega) (by first | decide | omega) d_Mo_wouldNow_161
          · skip
            refine z_iload 1 d_Mo_wouldNow_140 rfl ?_
            refine z_callS0 ((m_Mo_size hs0 hst (nn := rag (V 7) (mgv V si) (mgr V si g) (rmb (V 7) (mgv V si) t (mgr V si g) (mgr V si g)).1) (by omega))) ym_Mo_size qM_Mo_66 qS_Mo_size d_Mo_wouldNow_142 rfl (Nat.le_of_ble_eq_true rfl) ⟨Nat.zero_le _, Nat.zero_le _⟩ ⟨Nat.le_of_ble_eq_true rfl, Nat.le_of_ble_eq_true rfl⟩ ?_
            exact z_iret rfl (⟨⟨t, ht1, ht4, ht, by unfold qWd; rw [if_neg c_25, if_neg c_36, if_pos c_66, if_pos c_137]⟩, V2, hM2, hK2, hF2⟩) (by first | decide | omega) (by first | decide | omega) d_Mo_wouldNow_145
        · skip
          refine z_iconst (v := 1) d_Mo_wouldNow_128 (by decide) ?_
          refine z_goto 133 d_Mo_wouldNow_129 (by decide) ?_
          refine z_istore (L' := [(8, _), (7, _), (6, _), (5, _), (4, _), (0, _), (1, _), (2, _), (3, _)]) d_Mo_wouldNow_133 (by decide) rfl ?_
          refine z_iload_n 8 d_Mo_wouldNow_135 rfl rfl ?_
          refine z_iconst (v := 5) d_Mo_wouldNow_136 (by decide) ?_
          refine z_icmp_ne 146 d_Mo_wouldNow_137 (by decide) (fun c_137 => ?_) (fun c_137 => ?_)
          · skip
            refine z_iload 0 d_Mo_wouldNow_146 rfl ?_
            refine z_if_ne 162 d_Mo_wouldNow_148 (by decide) (fun c_148 => ?_) (fun c_148 => ?_)
            · skip
              refine z_iload_n 8 d_Mo_wouldNow_162 rfl rfl ?_
              refine z_iconst (v := 2) d_Mo_wouldNow_163 (by decide) ?_
              refine z_icmp_ne 171 d_Mo_wouldNow_164 (by decide) (fun c_164 => ?_) (fun c_164 => ?_)
              · skip
                refine z_iload_n 8 d_Mo_wouldNow_171 rfl rfl ?_
                refine z_iconst (v := 3) d_Mo_wouldNow_172 (by decide) ?_
                refine z_icmp_ne 188 d_Mo_wouldNow_173 (by decide) (fun c_173 => ?_) (fun c_173 => ?_)
                · skip
                  refine z_iload 3 d_Mo_wouldNow_188 rfl ?_
                  refine z_iload 1 d_Mo_wouldNow_190 rfl ?_
                  refine z_iconst (v := (-1)) d_Mo_wouldNow_192 (by decide) ?_
                  refine z_ixor d_Mo_wouldNow_193 ?_
                  refine z_iand d_Mo_wouldNow_194 ?_
                  exact z_iret rfl (by first | (exfalso; revert c_148; decide) | (have hq9 := hM3; exact ⟨⟨t, ht1, ht4, ht, by unfold qWd; rw [if_neg c_25, if_neg c_36, if_pos c_66, if_neg c_137, if_pos (Int32.not_lt.mp c_125), if_neg c_164, if_pos c_173]⟩, V3, hM3, hK2.tr hK3, hF2.tr hF3⟩) | exact ⟨⟨t, ht1, ht4, ht, by unfold qWd; first | rw [if_neg c_25, if_neg c_36, if_pos c_66, if_neg c_137, if_pos (Int32.not_lt.mp c_125), if_pos c_164] | rw [if_neg c_25, if_neg c_36, if_pos c_66, if_neg c_137, if_pos (Int32.not_lt.mp c_125), if_neg c_164, if_neg c_173]⟩, V2, hM2, hK2, hF2⟩) (by first | decide | omega) (by first | decide | omega) d_Mo_wouldNow_195
                · skip
                  refine z_aload_n 5 d_Mo_wouldNow_176 rfl rfl ?_
                  refine z_aload 4 d_Mo_wouldNow_177 rfl ?_
                  refine z_iload 2 d_Mo_wouldNow_179 rfl ?_
                  refine z_iconst (v := (nI 0)) d_Mo_wouldNow_181 (by decide) ?_
                  refine z_callVp0 ((m_Mo_alongE hs0 hst hM2 hsi hb1 (x := 0) (by decide) (by rw [hK2.mg]; exact hsb) (by rw [hK2.r (r := 7) (by decide) (by decide)]; exact hok.1))) ym_Mo_along qM_Mo_88 qI_Mo_along qV_Mo_Mo_along zc_Mo hM2.mo d_Mo_wouldNow_182 rfl (Nat.le_of_ble_eq_true rfl) ⟨Nat.zero_le _, Nat.zero_le _⟩ ⟨Nat.le_of_ble_eq_true rfl, Nat.le_of_ble_eq_true rfl⟩ (fun r_182 G_182 hp_182 => ?_)
                  obtain ⟨hr_182, V3, hM3, hK3, hF3⟩ := hp_182
                  rw [hK2.mg, hK2.r (r := 7) (by decide) (by decide)] at hr_182
                  obtain rfl : r_182 = _ := hr_182
                  refine z_goto 195 d_Mo_wouldNow_185 (by decide) ?_
                  exact z_iret rfl (by first | (exfalso; revert c_148; decide) | (have hq9 := hM3; exact ⟨⟨t, ht1, ht4, ht, by unfold qWd; rw [if_neg c_25, if_neg c_36, if_pos c_66, if_neg c_137, if_pos (Int32.not_lt.mp c_125), if_neg c_164, if_pos c_173]⟩, V3, hM3, hK2.tr hK3, hF2.tr hF3⟩) | exact ⟨⟨t, ht1, ht4, ht, by unfold qWd; first | rw [if_neg c_25, if_neg c_36, if_pos c_66, if_neg c_137, if_pos (Int32.not_lt.mp c_125), if_pos c_164] | rw [if_neg c_25, if_neg c_36, if_pos c_66, if_neg c_137, if_pos (Int32.not_lt.mp c_125), if_neg c_164, if_neg c_173]⟩, V2, hM2, hK2, hF2⟩) (by first | decide | omega) (by first | decide | omega) d_Mo_wouldNow_195
              · skip
                refine z_iconst (v := 1) d_Mo_wouldNow_167 (by decide) ?_
                refine z_goto 195 d_Mo_wouldNow_168 (by decide) ?_
                exact z_iret rfl (by first | (exfalso; revert c_148; decide) | (have hq9 := hM3; exact ⟨⟨t, ht1, ht4, ht, by unfold qWd; rw [if_neg c_25, if_neg c_36, if_pos c_66, if_neg c_137, if_pos (Int32.not_lt.mp c_125), if_neg c_164, if_pos c_173]⟩, V3, hM3, hK2.tr hK3, hF2.tr hF3⟩) | exact ⟨⟨t, ht1, ht4, ht, by unfold qWd; first | rw [if_neg c_25, if_neg c_36, if_pos c_66, if_neg c_137, if_pos (Int32.not_lt.mp c_125), if_pos c_164] | rw [if_neg c_25, if_neg c_36, if_pos c_66, if_neg c_137, if_pos (Int32.not_lt.mp c_125), if_neg c_164, if_neg c_173]⟩, V2, hM2, hK2, hF2⟩) (by first | decide | omega) (by first | decide | omega) d_Mo_wouldNow_195
            · skip
              refine z_iload_n 8 d_Mo_wouldNow_151 rfl rfl ?_
              refine z_iconst (v := 3) d_Mo_wouldNow_152 (by decide) ?_
              refine z_icmp_ne 160 d_Mo_wouldNow_153 (by decide) (fun c_153 => ?_) (fun c_153 => ?_)
              · skip
                refine z_iconst (v := 0) d_Mo_wouldNow_160 (by decide) ?_
                exact z_iret rfl (by first | (exfalso; revert c_148; decide) | exact ⟨⟨t, ht1, ht4, ht, by unfold qWd; first | rw [if_neg c_25, if_neg c_36, if_pos c_66, if_neg c_137, if_neg (Int32.not_le.mpr c_125), if_pos c_153] | rw [if_neg c_25, if_neg c_36, if_pos c_66, if_neg c_137, if_neg (Int32.not_le.mpr c_125), if_neg c_153]⟩, V2, hM2, hK2, hF2⟩) (by first | decide | omega) (by first | decide | omega) d_Mo_wouldNow_161
              · skip
                refine z_iconst (v := (-1)) d_Mo_wouldNow_156 (by decide) ?_
                refine z_goto 161 d_Mo_wouldNow_157 (by decide) ?_
                exact z_iret rfl (by first | (exfalso; revert c_148; decide) | exact ⟨⟨t, ht1, ht4, ht, by unfold qWd; first | rw [if_neg c_25, if_neg c_36, if_pos c_66, if_neg c_137, if_neg (Int32.not_le.mpr c_125), if_pos c_153] | rw [if_neg c_25, if_neg c_36, if_pos c_66, if_neg c_137, if_neg (Int32.not_le.mpr c_125), if_neg c_153]⟩, V2, hM2, hK2, hF2⟩) (by first | decide | omega) (by first | decide | omega) d_Mo_wouldNow_161
          · skip
            refine z_iload 1 d_Mo_wouldNow_140 rfl ?_
            refine z_callS0 ((m_Mo_size hs0 hst (nn := rag (V 7) (mgv V si) (mgr V si g) (rmb (V 7) (mgv V si) t (mgr V si g) (mgr V si g)).1) (by omega))) ym_Mo_size qM_Mo_66 qS_Mo_size d_Mo_wouldNow_142 rfl (Nat.le_of_ble_eq_true rfl) ⟨Nat.zero_le _, Nat.zero_le _⟩ ⟨Nat.le_of_ble_eq_true rfl, Nat.le_of_ble_eq_true rfl⟩ ?_
            exact z_iret rfl (⟨⟨t, ht1, ht4, ht, by unfold qWd; rw [if_neg c_25, if_neg c_36, if_pos c_66, if_pos c_137]⟩, V2, hM2, hK2, hF2⟩) (by first | decide | omega) (by first | decide | omega) d_Mo_wouldNow_145
      · skip
        refine z_iload_n 5 d_Mo_wouldNow_69 rfl rfl ?_
        refine z_iconst (v := 3) d_Mo_wouldNow_70 (by decide) ?_
        refine z_icmp_ne 78 d_Mo_wouldNow_71 (by decide) (fun c_71 => ?_) (fun c_71 => ?_)
        · skip
          refine z_iconst (v := 0) d_Mo_wouldNow_78 (by decide) ?_
          exact z_iret rfl (⟨⟨t, ht1, ht4, ht, by unfold qWd; first | rw [if_neg c_25, if_neg c_36, if_neg c_66, if_pos c_71] | rw [if_neg c_25, if_neg c_36, if_neg c_66, if_neg c_71]⟩, V, hM, zKp.rf, zFr.rf⟩) (by first | decide | omega) (by first | decide | omega) d_Mo_wouldNow_79
        · skip
          refine z_iconst (v := (-1)) d_Mo_wouldNow_74 (by decide) ?_
          refine z_goto 79 d_Mo_wouldNow_75 (by decide) ?_
          exact z_iret rfl (⟨⟨t, ht1, ht4, ht, by unfold qWd; first | rw [if_neg c_25, if_neg c_36, if_neg c_66, if_pos c_71] | rw [if_neg c_25, if_neg c_36, if_neg c_66, if_neg c_71]⟩, V, hM, zKp.rf, zFr.rf⟩) (by first | decide | omega) (by first | decide | omega) d_Mo_wouldNow_79
    · skip
      refine z_aload_n 2 d_Mo_wouldNow_39 rfl rfl ?_
      refine z_aload 1 d_Mo_wouldNow_40 rfl ?_
      refine z_iload 0 d_Mo_wouldNow_42 rfl ?_
      refine z_callV0 ((m_Mo_isLawfulE hs0 hst hM hsi _ hok.2.2)) ym_Mo_isLawful qM_Mo_172 qI_Mo_isLawful qV_Mo_Mo_isLawful zc_Mo hM.mo d_Mo_wouldNow_44 rfl (Nat.le_of_ble_eq_true rfl) ⟨Nat.zero_le _, Nat.zero_le _⟩ ⟨Nat.le_of_ble_eq_true rfl, Nat.le_of_ble_eq_true rfl⟩ ?_
      refine z_if_eq 54 d_Mo_wouldNow_47 (by decide) (fun c_47 => ?_) (fun c_47 => ?_)
      · skip
        refine z_iconst (v := 0) d_Mo_wouldNow_54 (by decide) ?_
        exact z_iret rfl (⟨⟨t, ht1, ht4, ht, by unfold qWd; rw [if_neg c_25, if_pos c_36]; first | exact congrArg (fun b => some (Value.int (zb b))) ((zb_0 _).mp c_47).symm | exact congrArg (fun b => some (Value.int (zb b))) ((zb_n0 _).mp c_47).symm⟩, V, hM, zKp.rf, zFr.rf⟩) (by first | decide | omega) (by first | decide | omega) d_Mo_wouldNow_55
      · skip
        refine z_iconst (v := 1) d_Mo_wouldNow_50 (by decide) ?_
        refine z_goto 55 d_Mo_wouldNow_51 (by decide) ?_
        exact z_iret rfl (⟨⟨t, ht1, ht4, ht, by unfold qWd; rw [if_neg c_25, if_pos c_36]; first | exact congrArg (fun b => some (Value.int (zb b))) ((zb_0 _).mp c_47).symm | exact congrArg (fun b => some (Value.int (zb b))) ((zb_n0 _).mp c_47).symm⟩, V, hM, zKp.rf, zFr.rf⟩) (by first | decide | omega) (by first | decide | omega) d_Mo_wouldNow_55
  · skip
    refine z_iload 0 d_Mo_wouldNow_28 rfl ?_
    refine z_callS0 ((m_Mo_size hs0 hst (nn := mgr V si g) (by omega))) ym_Mo_size qM_Mo_66 qS_Mo_size d_Mo_wouldNow_30 rfl (Nat.le_of_ble_eq_true rfl) ⟨Nat.zero_le _, Nat.zero_le _⟩ ⟨Nat.le_of_ble_eq_true rfl, Nat.le_of_ble_eq_true rfl⟩ ?_
    exact z_iret rfl (⟨⟨t, ht1, ht4, ht, by unfold qWd; rw [if_pos c_25]⟩, V, hM, zKp.rf, zFr.rf⟩) (by first | decide | omega) (by first | decide | omega) d_Mo_wouldNow_33

def fml (V : Nat → Nat → Int32) (nk s b : Nat) : Bool := if nI (zpop 9 s) = nI (zpop 9 b) then decide (zpri (nI s) (fun k => V (100 + k) 1) nk - zpri (nI b) (fun k => V (100 + k) 1) nk < 0) else decide (nI (zpop 9 s) - nI (zpop 9 b) < 0)
def fmc (V : Nat → Nat → Int32) (nk si s : Nat) : Bool := decide (nI s &&& (nI (zsetN (zgd (V (300 + si)) (V (400 + si)) (V (200 + si) 3)) 8) ^^^ (-1)) = 0) && (decide (V (200 + si) 0 ≤ nI (zpop 9 s)) && decide (V (200 + si) 1 ≤ zbc (zzo (nI s) (fun k => V (100 + k) 0) nk)))
def mFw (V : Nat → Nat → Int32) (nk si : Nat) : Int32 := nI (zfB (fmc V nk si) (fml V nk) 255)
def rFw (nk ns : Nat) (x t b : Int32) (V : Nat → Nat → Int32) : Prop := (zin x 0 (nI ns - 1) = false ∧ t = 1) ∨ (∃ si, si < ns ∧ x = nI si ∧ t = 0 ∧ b = mFw V nk si)

set_option maxHeartbeats 4000000 in
set_option maxRecDepth 100000 in
theorem m_Mo_fewestNowE {g0 : State} {d : zD} {l : Launch} {a0 : Array Value} (hs0 : zS0 d a0 g0) (hst : l.stackTraces = false) {G : zG} {B : Nat → Nat} {V : Nat → Nat → Int32} {nk ns ne ec : Nat} (hM : zM d B V nk ns ne ec G) {si : Nat} (hsi : si < ns) (hzo : ∀ k, k < nk → ∃ z, z < 4 ∧ V (100 + k) 0 = nI z) : zMet g0 d l y_Mo_fewestNow c_Mo_fewestNow 7 ((Option.some Jvm.ClassFile.FieldType.int)) 12 0 0 [.ref (B 0), .int (nI si)] (G) (zEq (some (.int (mFw V nk si))) G) (zNo) := by
  have hnk : nk ≤ 8 := hM.2.1
  have hns : ns ≤ 6 := hM.2.2.1
  have hne : ne ≤ 64 := hM.2.2.2.1
  have hp2 : 2 ^ nk ≤ 256 := Nat.pow_le_pow_right (n := 2) (by decide) hnk
  refine z_entry hs0 hst (by decide) (Nat.le_of_ble_eq_true rfl) (fun p e s m args below meth c => ?_)
  refine z_aload_n 0 d_Mo_fewestNow_0 rfl rfl ?_
  refine z_get zc_Mo 7 (by decide) qF_Mo_20 hM.mo rfl d_Mo_fewestNow_1 ?_
  refine z_iload_n 1 d_Mo_fewestNow_4 rfl rfl ?_
  refine z_callF0 (m_AL_get hs0 hst (hM.sA hsi) hsi (if_pos hsi)) ym_AL_get zF_AL_get qM_Mo_51 zc_AL (hM.sA hsi).1 d_Mo_fewestNow_5 rfl (Nat.le_of_ble_eq_true rfl) ⟨Nat.zero_le _, Nat.zero_le _⟩ ⟨Nat.le_of_ble_eq_true rfl, Nat.le_of_ble_eq_true rfl⟩ ?_
  refine z_castS zc_MS qK_Mo_47 (hM.se hsi).1 d_Mo_fewestNow_10 ?_
  refine z_astore_n (L' := [(2, _), (0, _), (1, _)]) d_Mo_fewestNow_13 rfl (by decide) rfl ?_
  refine z_iconst (v := (nI 0)) d_Mo_fewestNow_14 (by decide) ?_
  refine z_istore_n (L' := [(3, _), (2, _), (0, _), (1, _)]) d_Mo_fewestNow_15 rfl (by decide) rfl ?_
  refine z_iconst (v := (nI (0 + 1))) d_Mo_fewestNow_16 (by decide) ?_
  refine z_istore (L' := [(4, _), (3, _), (2, _), (0, _), (1, _)]) d_Mo_fewestNow_17 (by decide) rfl ?_
  have key_19 : ∀ (n : Nat) (i : Nat), 256 - i < n → (i ≤ 255) → Z g0 d y_Mo_fewestNow c_Mo_fewestNow 7 ((Option.some Jvm.ClassFile.FieldType.int)) [] p l e (zR 12 0 0) s m args below meth c (vx_MQ below (zQc g0 d (zEq (some (.int (mFw V nk si))) G)) (zXc g0 d (zNo)) args s 0 0 (zA g0)) 0 0 (G) [(4, .int (nI (i + 1))), (3, .int (nI (zfB (fmc V nk si) (fml V nk) i))), (2, .ref (B (200 + si))), (0, .ref (B 0)), (1, .int (nI si))] [] 19 := by
    intro n
    induction n with
    | zero => intro i h0; exact absurd h0 (Nat.not_lt_zero _)
    | succ n ih_19 =>
      intro i hm_19 hi
      have hle9 := zfB_le (fmc V nk si) (fml V nk) i
      have hz9 := nI_z (i := (zfB (fmc V nk si) (fml V nk) i)) (by omega)
      refine z_iload 0 d_Mo_fewestNow_19 rfl ?_
      refine z_sipush (v := (nI 256)) d_Mo_fewestNow_21 (by decide) ?_
      refine z_icmp_ge 198 d_Mo_fewestNow_24 (by decide) (fun c_24 => ?_) (fun c_24 => ?_)
      · skip
        obtain rfl : i = 255 := by
          have := (nI_leI (a := 256) (b := i + 1) (by decide) (by omega)).mp c_24
          omega
        refine z_iload_n 1 d_Mo_fewestNow_198 rfl rfl ?_
        exact z_iret rfl (⟨rfl, rfl⟩) (by first | decide | omega) (by first | decide | omega) d_Mo_fewestNow_199
      · skip
        have hi6 : i + 1 < 256 := Nat.lt_of_not_le fun q => c_24 (nI_le (a := 256) (b := i + 1) q (by omega))
        refine z_iload 0 d_Mo_fewestNow_27 rfl ?_
        refine z_aload_n 2 d_Mo_fewestNow_29 rfl rfl ?_
        refine z_callV0 (m_MS_good hs0 hst (hM.se hsi)) ym_MS_good qM_Mo_62 qI_MS_good qV_MS_MS_good zc_MS (hM.se hsi).1 d_Mo_fewestNow_30 rfl (Nat.le_of_ble_eq_true rfl) ⟨Nat.zero_le _, Nat.zero_le _⟩ ⟨Nat.le_of_ble_eq_true rfl, Nat.le_of_ble_eq_true rfl⟩ ?_
        refine z_topv (zset_N _ 8 (by decide)).1 ?_
        refine z_iconst (v := (-1)) d_Mo_fewestNow_33 (by decide) ?_
        refine z_ixor d_Mo_fewestNow_34 ?_
        refine z_iand d_Mo_fewestNow_35 ?_
        refine z_if_ne 192 d_Mo_fewestNow_36 (by decide) (fun c_36 => ?_) (fun c_36 => ?_)
        · skip
          refine z_iinc (v := nI (i + 1 + 1)) (L' := [(4, _), (3, _), (2, _), (0, _), (1, _)]) 0 d_Mo_fewestNow_192 rfl (nI_1 (i + 1)) (by decide) rfl ?_
          refine z_goto 19 d_Mo_fewestNow_195 (by decide) ?_
          first
            | (exfalso; revert c_182; decide)
            | (have e9 := zfB_f (c := (fmc V nk si)) (l := (fml V nk)) (n := i) (Or.inl (fw_1 c_36))
               have hb := ih_19 (i + 1) (by omega) (by omega)
               rw [e9] at hb
               exact hb)
            | (have e9 := zfB_f (c := (fmc V nk si)) (l := (fml V nk)) (n := i) (Or.inl (fw_2 c_48))
               have hb := ih_19 (i + 1) (by omega) (by omega)
               rw [e9] at hb
               exact hb)
            | (have e9 := zfB_f (c := (fmc V nk si)) (l := (fml V nk)) (n := i) (Or.inl (fw_3 c_127))
               have hb := ih_19 (i + 1) (by omega) (by omega)
               rw [e9] at hb
               exact hb)
            | (have e9 := zfB_f (c := (fmc V nk si)) (l := (fml V nk)) (n := i) (Or.inr ⟨fun q => c_134 (congrArg nI q), (if_neg c_150).trans (decide_eq_false (Int32.not_lt.mpr c_182))⟩)
               have hb := ih_19 (i + 1) (by omega) (by omega)
               rw [e9] at hb
               exact hb)
            | (have e9 := zfB_f (c := (fmc V nk si)) (l := (fml V nk)) (n := i) (Or.inr ⟨fun q => c_134 (congrArg nI q), (if_pos c_150).trans (decide_eq_false (Int32.not_lt.mpr c_182))⟩)
               have hb := ih_19 (i + 1) (by omega) (by omega)
               rw [e9] at hb
               exact hb)
            | (have e9 := zfB_t (c := (fmc V nk si)) (l := (fml V nk)) (n := i) (fw_t c_36 c_48 c_127) (Or.inl (hz9.mp c_134))
               have hb := ih_19 (i + 1) (by omega) (by omega)
               rw [e9] at hb
               exact hb)
            | (have e9 := zfB_t (c := (fmc V nk si)) (l := (fml V nk)) (n := i) (fw_t c_36 c_48 c_127) (Or.inr ((if_neg c_150).trans (decide_eq_true (Int32.not_le.mp c_182))))
               have hb := ih_19 (i + 1) (by omega) (by omega)
               rw [e9] at hb
               exact hb)
            | (have e9 := zfB_t (c := (fmc V nk si)) (l := (fml V nk)) (n := i) (fw_t c_36 c_48 c_127) (Or.inr ((if_pos c_150).trans (decide_eq_true (Int32.not_le.mp c_182))))
               have hb := ih_19 (i + 1) (by omega) (by omega)
               rw [e9] at hb
               exact hb)
        · skip
          refine z_iload 0 d_Mo_fewestNow_39 rfl ?_
          refine z_callS0 ((m_Mo_size hs0 hst (nn := i + 1) (by omega))) ym_Mo_size qM_Mo_66 qS_Mo_size d_Mo_fewestNow_41 rfl (Nat.le_of_ble_eq_true rfl) ⟨Nat.zero_le _, Nat.zero_le _⟩ ⟨Nat.le_of_ble_eq_true rfl, Nat.le_of_ble_eq_true rfl⟩ ?_
          refine z_aload_n 2 d_Mo_fewestNow_44 rfl rfl ?_
          refine z_get zc_MS 0 (by decide) qF_Mo_69 (hM.se hsi).1 rfl d_Mo_fewestNow_45 ?_
          refine z_icmp_ge 54 d_Mo_fewestNow_48 (by decide) (fun c_48 => ?_) (fun c_48 => ?_)
          · skip
            refine z_iconst (v := (nI 0)) d_Mo_fewestNow_54 (by decide) ?_
            refine z_istore (L' := [(5, _), (4, _), (3, _), (2, _), (0, _), (1, _)]) d_Mo_fewestNow_55 (by decide) rfl ?_
            refine z_iconst (v := (nI 0)) d_Mo_fewestNow_57 (by decide) ?_
            refine z_istore (L' := [(6, _), (5, _), (4, _), (3, _), (2, _), (0, _), (1, _)]) d_Mo_fewestNow_58 (by decide) rfl ?_
            have key_60 : ∀ (n : Nat) (j : Nat), nk - j < n → (j ≤ nk) → Z g0 d y_Mo_fewestNow c_Mo_fewestNow 7 ((Option.some Jvm.ClassFile.FieldType.int)) [] p l e (zR 12 0 0) s m args below meth c (vx_MQ below (zQc g0 d (zEq (some (.int (mFw V nk si))) G)) (zXc g0 d (zNo)) args s 0 0 (zA g0)) 0 0 (G) [(6, .int (nI j)), (5, .int (zzo (nI (i + 1)) (fun k => V (100 + k) 0) j)), (4, .int (nI (i + 1))), (3, .int (nI (zfB (fmc V nk si) (fml V nk) i))), (2, .ref (B (200 + si))), (0, .ref (B 0)), (1, .int (nI si))] [] 60 := by
              intro n
              induction n with
              | zero => intro j h0; exact absurd h0 (Nat.not_lt_zero _)
              | succ n ih_60 =>
                intro j hm_60 hj
                refine z_iload 0 d_Mo_fewestNow_60 rfl ?_
                refine z_aload_n 5 d_Mo_fewestNow_62 rfl rfl ?_
                refine z_get zc_Mo 6 (by decide) qF_Mo_16 hM.mo rfl d_Mo_fewestNow_63 ?_
                refine z_callF0 (m_AL_size hs0 hst hM.kl) ym_AL_size zF_AL_size qM_Mo_94 zc_AL hM.kl d_Mo_fewestNow_66 rfl (Nat.le_of_ble_eq_true rfl) ⟨Nat.zero_le _, Nat.zero_le _⟩ ⟨Nat.le_of_ble_eq_true rfl, Nat.le_of_ble_eq_true rfl⟩ ?_
                refine z_icmp_ge 118 d_Mo_fewestNow_71 (by decide) (fun c_71 => ?_) (fun c_71 => ?_)
                · skip
                  obtain rfl : nk = j := by
                    have := (nI_leI (a := nk) (b := j) (by omega) (by omega)).mp c_71
                    omega
                  obtain ⟨q9, hq9, eq9⟩ := zzo_lt (set := nI (i + 1)) (zo := (fun k => V (100 + k) 0)) nk hzo
                  have e9z : nI (zpop 9 q9) = zbc (zzo (nI (i + 1)) (fun k => V (100 + k) 0) nk) := by rw [eq9]; exact (zbc_512 q9 (by omega)).symm
                  refine z_iload 1 d_Mo_fewestNow_118 rfl ?_
                  refine z_topv eq9 ?_
                  refine z_callS0 ((m_Mo_size hs0 hst (nn := q9) (by omega))) ym_Mo_size qM_Mo_66 qS_Mo_size d_Mo_fewestNow_120 rfl (Nat.le_of_ble_eq_true rfl) ⟨Nat.zero_le _, Nat.zero_le _⟩ ⟨Nat.le_of_ble_eq_true rfl, Nat.le_of_ble_eq_true rfl⟩ ?_
                  refine z_topv e9z ?_
                  refine z_aload_n 4 d_Mo_fewestNow_123 rfl rfl ?_
                  refine z_get zc_MS 1 (by decide) qF_Mo_99 (hM.se hsi).1 rfl d_Mo_fewestNow_124 ?_
                  refine z_icmp_ge 133 d_Mo_fewestNow_127 (by decide) (fun c_127 => ?_) (fun c_127 => ?_)
                  · skip
                    refine z_iload_n 3 d_Mo_fewestNow_133 rfl rfl ?_
                    refine z_if_ne 141 d_Mo_fewestNow_134 (by decide) (fun c_134 => ?_) (fun c_134 => ?_)
                    · skip
                      refine z_iload 2 d_Mo_fewestNow_141 rfl ?_
                      refine z_callS0 ((m_Mo_size hs0 hst (nn := i + 1) (by omega))) ym_Mo_size qM_Mo_66 qS_Mo_size d_Mo_fewestNow_143 rfl (Nat.le_of_ble_eq_true rfl) ⟨Nat.zero_le _, Nat.zero_le _⟩ ⟨Nat.le_of_ble_eq_true rfl, Nat.le_of_ble_eq_true rfl⟩ ?_
                      refine z_iload_n 3 d_Mo_fewestNow_146 rfl rfl ?_
                      refine z_callS0 ((m_Mo_size hs0 hst (nn := (zfB (fmc V nk si) (fml V nk) i)) (by omega))) ym_Mo_size qM_Mo_66 qS_Mo_size d_Mo_fewestNow_147 rfl (Nat.le_of_ble_eq_true rfl) ⟨Nat.zero_le _, Nat.zero_le _⟩ ⟨Nat.le_of_ble_eq_true rfl, Nat.le_of_ble_eq_true rfl⟩ ?_
                      refine z_icmp_eq 166 d_Mo_fewestNow_150 (by decide) (fun c_150 => ?_) (fun c_150 => ?_)
                      · skip
                        refine z_aload_n 5 d_Mo_fewestNow_166 rfl rfl ?_
                        refine z_iload 2 d_Mo_fewestNow_167 rfl ?_
                        refine z_callV0 ((m_Mo_priceOfE hs0 hst hM _)) ym_Mo_priceOf qM_Mo_207 qI_Mo_priceOf qV_Mo_Mo_priceOf zc_Mo hM.mo d_Mo_fewestNow_169 rfl (Nat.le_of_ble_eq_true rfl) ⟨Nat.zero_le _, Nat.zero_le _⟩ ⟨Nat.le_of_ble_eq_true rfl, Nat.le_of_ble_eq_true rfl⟩ ?_
                        refine z_aload_n 5 d_Mo_fewestNow_172 rfl rfl ?_
                        refine z_iload_n 3 d_Mo_fewestNow_173 rfl rfl ?_
                        refine z_callV0 ((m_Mo_priceOfE hs0 hst hM _)) ym_Mo_priceOf qM_Mo_207 qI_Mo_priceOf qV_Mo_Mo_priceOf zc_Mo hM.mo d_Mo_fewestNow_174 rfl (Nat.le_of_ble_eq_true rfl) ⟨Nat.zero_le _, Nat.zero_le _⟩ ⟨Nat.le_of_ble_eq_true rfl, Nat.le_of_ble_eq_true rfl⟩ ?_
                        refine z_isub d_Mo_fewestNow_177 ?_
                        refine z_istore (L' := [(6, _), (5, _), (4, _), (3, _), (2, _), (0, _), (1, _)]) d_Mo_fewestNow_178 (by decide) rfl ?_
                        refine z_iload 0 d_Mo_fewestNow_180 rfl ?_
                        refine z_if_ge 190 d_Mo_fewestNow_182 (by decide) (fun c_182 => ?_) (fun c_182 => ?_)
                        · skip
                          refine z_iload_n 3 d_Mo_fewestNow_190 rfl rfl ?_
                          refine z_istore_n (L' := [(3, _), (6, _), (5, _), (4, _), (2, _), (0, _), (1, _)]) d_Mo_fewestNow_191 rfl (by decide) rfl ?_
                          refine z_iinc (v := nI (i + 1 + 1)) (L' := [(4, _), (3, _), (6, _), (5, _), (2, _), (0, _), (1, _)]) 3 d_Mo_fewestNow_192 rfl (nI_1 (i + 1)) (by decide) rfl ?_
                          refine z_goto 19 d_Mo_fewestNow_195 (by decide) ?_
                          refine z_sub (L' := [(4, _), (3, _), (2, _), (0, _), (1, _)]) [0, 1, 4, 5, 6] rfl ?_
                          first
                            | (exfalso; revert c_182; decide)
                            | (have e9 := zfB_f (c := (fmc V nk si)) (l := (fml V nk)) (n := i) (Or.inl (fw_1 c_36))
                               have hb := ih_19 (i + 1) (by omega) (by omega)
                               rw [e9] at hb
                               exact hb)
                            | (have e9 := zfB_f (c := (fmc V nk si)) (l := (fml V nk)) (n := i) (Or.inl (fw_2 c_48))
                               have hb := ih_19 (i + 1) (by omega) (by omega)
                               rw [e9] at hb
                               exact hb)
                            | (have e9 := zfB_f (c := (fmc V nk si)) (l := (fml V nk)) (n := i) (Or.inl (fw_3 c_127))
                               have hb := ih_19 (i + 1) (by omega) (by omega)
                               rw [e9] at hb
                               exact hb)
                            | (have e9 := zfB_f (c := (fmc V nk si)) (l := (fml V nk)) (n := i) (Or.inr ⟨fun q => c_134 (congrArg nI q), (if_neg c_150).trans (decide_eq_false (Int32.not_lt.mpr c_182))⟩)
                               have hb := ih_19 (i + 1) (by omega) (by omega)
                               rw [e9] at hb
                               exact hb)
                            | (have e9 := zfB_f (c := (fmc V nk si)) (l := (fml V nk)) (n := i) (Or.inr ⟨fun q => c_134 (congrArg nI q), (if_pos c_150).trans (decide_eq_false (Int32.not_lt.mpr c_182))⟩)
                               have hb := ih_19 (i + 1) (by omega) (by omega)
                               rw [e9] at hb
                               exact hb)
                            | (have e9 := zfB_t (c := (fmc V nk si)) (l := (fml V nk)) (n := i) (fw_t c_36 c_48 c_127) (Or.inl (hz9.mp c_134))
                               have hb := ih_19 (i + 1) (by omega) (by omega)
                               rw [e9] at hb
                               exact hb)
                            | (have e9 := zfB_t (c := (fmc V nk si)) (l := (fml V nk)) (n := i) (fw_t c_36 c_48 c_127) (Or.inr ((if_neg c_150).trans (decide_eq_true (Int32.not_le.mp c_182))))
                               have hb := ih_19 (i + 1) (by omega) (by omega)
                               rw [e9] at hb
                               exact hb)
                            | (have e9 := zfB_t (c := (fmc V nk si)) (l := (fml V nk)) (n := i) (fw_t c_36 c_48 c_127) (Or.inr ((if_pos c_150).trans (decide_eq_true (Int32.not_le.mp c_182))))
                               have hb := ih_19 (i + 1) (by omega) (by omega)
                               rw [e9] at hb
                               exact hb)
                        · skip
                          refine z_iload 2 d_Mo_fewestNow_185 rfl ?_
                          refine z_goto 191 d_Mo_fewestNow_187 (by decide) ?_
                          refine z_istore_n (L' := [(3, _), (6, _), (5, _), (4, _), (2, _), (0, _), (1, _)]) d_Mo_fewestNow_191 rfl (by decide) rfl ?_
                          refine z_iinc (v := nI (i + 1 + 1)) (L' := [(4, _), (3, _), (6, _), (5, _), (2, _), (0, _), (1, _)]) 3 d_Mo_fewestNow_192 rfl (nI_1 (i + 1)) (by decide) rfl ?_
                          refine z_goto 19 d_Mo_fewestNow_195 (by decide) ?_
                          refine z_sub (L' := [(4, _), (3, _), (2, _), (0, _), (1, _)]) [0, 1, 4, 5, 6] rfl ?_
                          first
                            | (exfalso; revert c_182; decide)
                            | (have e9 := zfB_f (c := (fmc V nk si)) (l := (fml V nk)) (n := i) (Or.inl (fw_1 c_36))
                               have hb := ih_19 (i + 1) (by omega) (by omega)
                               rw [e9] at hb
                               exact hb)
                            | (have e9 := zfB_f (c := (fmc V nk si)) (l := (fml V nk)) (n := i) (Or.inl (fw_2 c_48))
                               have hb := ih_19 (i + 1) (by omega) (by omega)
                               rw [e9] at hb
                               exact hb)
                            | (have e9 := zfB_f (c := (fmc V nk si)) (l := (fml V nk)) (n := i) (Or.inl (fw_3 c_127))
                               have hb := ih_19 (i + 1) (by omega) (by omega)
                               rw [e9] at hb
                               exact hb)
                            | (have e9 := zfB_f (c := (fmc V nk si)) (l := (fml V nk)) (n := i) (Or.inr ⟨fun q => c_134 (congrArg nI q), (if_neg c_150).trans (decide_eq_false (Int32.not_lt.mpr c_182))⟩)
                               have hb := ih_19 (i + 1) (by omega) (by omega)
                               rw [e9] at hb
                               exact hb)
                            | (have e9 := zfB_f (c := (fmc V nk si)) (l := (fml V nk)) (n := i) (Or.inr ⟨fun q => c_134 (congrArg nI q), (if_pos c_150).trans (decide_eq_false (Int32.not_lt.mpr c_182))⟩)
                               have hb := ih_19 (i + 1) (by omega) (by omega)
                               rw [e9] at hb
                               exact hb)
                            | (have e9 := zfB_t (c := (fmc V nk si)) (l := (fml V nk)) (n := i) (fw_t c_36 c_48 c_127) (Or.inl (hz9.mp c_134))
                               have hb := ih_19 (i + 1) (by omega) (by omega)
                               rw [e9] at hb
                               exact hb)
                            | (have e9 := zfB_t (c := (fmc V nk si)) (l := (fml V nk)) (n := i) (fw_t c_36 c_48 c_127) (Or.inr ((if_neg c_150).trans (decide_eq_true (Int32.not_le.mp c_182))))
                               have hb := ih_19 (i + 1) (by omega) (by omega)
                               rw [e9] at hb
                               exact hb)
                            | (have e9 := zfB_t (c := (fmc V nk si)) (l := (fml V nk)) (n := i) (fw_t c_36 c_48 c_127) (Or.inr ((if_pos c_150).trans (decide_eq_true (Int32.not_le.mp c_182))))
                               have hb := ih_19 (i + 1) (by omega) (by omega)
                               rw [e9] at hb
                               exact hb)
                      · skip
                        refine z_iload 2 d_Mo_fewestNow_153 rfl ?_
                        refine z_callS0 ((m_Mo_size hs0 hst (nn := i + 1) (by omega))) ym_Mo_size qM_Mo_66 qS_Mo_size d_Mo_fewestNow_155 rfl (Nat.le_of_ble_eq_true rfl) ⟨Nat.zero_le _, Nat.zero_le _⟩ ⟨Nat.le_of_ble_eq_true rfl, Nat.le_of_ble_eq_true rfl⟩ ?_
                        refine z_iload_n 3 d_Mo_fewestNow_158 rfl rfl ?_
                        refine z_callS0 ((m_Mo_size hs0 hst (nn := (zfB (fmc V nk si) (fml V nk) i)) (by omega))) ym_Mo_size qM_Mo_66 qS_Mo_size d_Mo_fewestNow_159 rfl (Nat.le_of_ble_eq_true rfl) ⟨Nat.zero_le _, Nat.zero_le _⟩ ⟨Nat.le_of_ble_eq_true rfl, Nat.le_of_ble_eq_true rfl⟩ ?_
                        refine z_isub d_Mo_fewestNow_162 ?_
                        refine z_goto 178 d_Mo_fewestNow_163 (by decide) ?_
                        refine z_istore (L' := [(6, _), (5, _), (4, _), (3, _), (2, _), (0, _), (1, _)]) d_Mo_fewestNow_178 (by decide) rfl ?_
                        refine z_iload 0 d_Mo_fewestNow_180 rfl ?_
                        refine z_if_ge 190 d_Mo_fewestNow_182 (by decide) (fun c_182 => ?_) (fun c_182 => ?_)
                        · skip
                          refine z_iload_n 3 d_Mo_fewestNow_190 rfl rfl ?_
                          refine z_istore_n (L' := [(3, _), (6, _), (5, _), (4, _), (2, _), (0, _), (1, _)]) d_Mo_fewestNow_191 rfl (by decide) rfl ?_
                          refine z_iinc (v := nI (i + 1 + 1)) (L' := [(4, _), (3, _), (6, _), (5, _), (2, _), (0, _), (1, _)]) 3 d_Mo_fewestNow_192 rfl (nI_1 (i + 1)) (by decide) rfl ?_
                          refine z_goto 19 d_Mo_fewestNow_195 (by decide) ?_
                          refine z_sub (L' := [(4, _), (3, _), (2, _), (0, _), (1, _)]) [0, 1, 4, 5, 6] rfl ?_
                          first
                            | (exfalso; revert c_182; decide)
                            | (have e9 := zfB_f (c := (fmc V nk si)) (l := (fml V nk)) (n := i) (Or.inl (fw_1 c_36))
                               have hb := ih_19 (i + 1) (by omega) (by omega)
                               rw [e9] at hb
                               exact hb)
                            | (have e9 := zfB_f (c := (fmc V nk si)) (l := (fml V nk)) (n := i) (Or.inl (fw_2 c_48))
                               have hb := ih_19 (i + 1) (by omega) (by omega)
                               rw [e9] at hb
                               exact hb)
                            | (have e9 := zfB_f (c := (fmc V nk si)) (l := (fml V nk)) (n := i) (Or.inl (fw_3 c_127))
                               have hb := ih_19 (i + 1) (by omega) (by omega)
                               rw [e9] at hb
                               exact hb)
                            | (have e9 := zfB_f (c := (fmc V nk si)) (l := (fml V nk)) (n := i) (Or.inr ⟨fun q => c_134 (congrArg nI q), (if_neg c_150).trans (decide_eq_false (Int32.not_lt.mpr c_182))⟩)
                               have hb := ih_19 (i + 1) (by omega) (by omega)
                               rw [e9] at hb
                               exact hb)
                            | (have e9 := zfB_f (c := (fmc V nk si)) (l := (fml V nk)) (n := i) (Or.inr ⟨fun q => c_134 (congrArg nI q), (if_pos c_150).trans (decide_eq_false (Int32.not_lt.mpr c_182))⟩)
                               have hb := ih_19 (i + 1) (by omega) (by omega)
                               rw [e9] at hb
                               exact hb)
                            | (have e9 := zfB_t (c := (fmc V nk si)) (l := (fml V nk)) (n := i) (fw_t c_36 c_48 c_127) (Or.inl (hz9.mp c_134))
                               have hb := ih_19 (i + 1) (by omega) (by omega)
                               rw [e9] at hb
                               exact hb)
                            | (have e9 := zfB_t (c := (fmc V nk si)) (l := (fml V nk)) (n := i) (fw_t c_36 c_48 c_127) (Or.inr ((if_neg c_150).trans (decide_eq_true (Int32.not_le.mp c_182))))
                               have hb := ih_19 (i + 1) (by omega) (by omega)
                               rw [e9] at hb
                               exact hb)
                            | (have e9 := zfB_t (c := (fmc V nk si)) (l := (fml V nk)) (n := i) (fw_t c_36 c_48 c_127) (Or.inr ((if_pos c_150).trans (decide_eq_true (Int32.not_le.mp c_182))))
                               have hb := ih_19 (i + 1) (by omega) (by omega)
                               rw [e9] at hb
                               exact hb)
                        · skip
                          refine z_iload 2 d_Mo_fewestNow_185 rfl ?_
                          refine z_goto 191 d_Mo_fewestNow_187 (by decide) ?_
                          refine z_istore_n (L' := [(3, _), (6, _), (5, _), (4, _), (2, _), (0, _), (1, _)]) d_Mo_fewestNow_191 rfl (by decide) rfl ?_
                          refine z_iinc (v := nI (i + 1 + 1)) (L' := [(4, _), (3, _), (6, _), (5, _), (2, _), (0, _), (1, _)]) 3 d_Mo_fewestNow_192 rfl (nI_1 (i + 1)) (by decide) rfl ?_
                          refine z_goto 19 d_Mo_fewestNow_195 (by decide) ?_
                          refine z_sub (L' := [(4, _), (3, _), (2, _), (0, _), (1, _)]) [0, 1, 4, 5, 6] rfl ?_
                          first
                            | (exfalso; revert c_182; decide)
                            | (have e9 := zfB_f (c := (fmc V nk si)) (l := (fml V nk)) (n := i) (Or.inl (fw_1 c_36))
                               have hb := ih_19 (i + 1) (by omega) (by omega)
                               rw [e9] at hb
                               exact hb)
                            | (have e9 := zfB_f (c := (fmc V nk si)) (l := (fml V nk)) (n := i) (Or.inl (fw_2 c_48))
                               have hb := ih_19 (i + 1) (by omega) (by omega)
                               rw [e9] at hb
                               exact hb)
                            | (have e9 := zfB_f (c := (fmc V nk si)) (l := (fml V nk)) (n := i) (Or.inl (fw_3 c_127))
                               have hb := ih_19 (i + 1) (by omega) (by omega)
                               rw [e9] at hb
                               exact hb)
                            | (have e9 := zfB_f (c := (fmc V nk si)) (l := (fml V nk)) (n := i) (Or.inr ⟨fun q => c_134 (congrArg nI q), (if_neg c_150).trans (decide_eq_false (Int32.not_lt.mpr c_182))⟩)
                               have hb := ih_19 (i + 1) (by omega) (by omega)
                               rw [e9] at hb
                               exact hb)
                            | (have e9 := zfB_f (c := (fmc V nk si)) (l := (fml V nk)) (n := i) (Or.inr ⟨fun q => c_134 (congrArg nI q), (if_pos c_150).trans (decide_eq_false (Int32.not_lt.mpr c_182))⟩)
                               have hb := ih_19 (i + 1) (by omega) (by omega)
                               rw [e9] at hb
                               exact hb)
                            | (have e9 := zfB_t (c := (fmc V nk si)) (l := (fml V nk)) (n := i) (fw_t c_36 c_48 c_127) (Or.inl (hz9.mp c_134))
                               have hb := ih_19 (i + 1) (by omega) (by omega)
                               rw [e9] at hb
                               exact hb)
                            | (have e9 := zfB_t (c := (fmc V nk si)) (l := (fml V nk)) (n := i) (fw_t c_36 c_48 c_127) (Or.inr ((if_neg c_150).trans (decide_eq_true (Int32.not_le.mp c_182))))
                               have hb := ih_19 (i + 1) (by omega) (by omega)
                               rw [e9] at hb
                               exact hb)
                            | (have e9 := zfB_t (c := (fmc V nk si)) (l := (fml V nk)) (n := i) (fw_t c_36 c_48 c_127) (Or.inr ((if_pos c_150).trans (decide_eq_true (Int32.not_le.mp c_182))))
                               have hb := ih_19 (i + 1) (by omega) (by omega)
                               rw [e9] at hb
                               exact hb)
                    · skip
                      refine z_iconst (v := (-1)) d_Mo_fewestNow_137 (by decide) ?_
                      refine z_goto 178 d_Mo_fewestNow_138 (by decide) ?_
                      refine z_istore (L' := [(6, _), (5, _), (4, _), (3, _), (2, _), (0, _), (1, _)]) d_Mo_fewestNow_178 (by decide) rfl ?_
                      refine z_iload 0 d_Mo_fewestNow_180 rfl ?_
                      refine z_if_ge 190 d_Mo_fewestNow_182 (by decide) (fun c_182 => ?_) (fun c_182 => ?_)
                      · skip
                        refine z_iload_n 3 d_Mo_fewestNow_190 rfl rfl ?_
                        refine z_istore_n (L' := [(3, _), (6, _), (5, _), (4, _), (2, _), (0, _), (1, _)]) d_Mo_fewestNow_191 rfl (by decide) rfl ?_
                        refine z_iinc (v := nI (i + 1 + 1)) (L' := [(4, _), (3, _), (6, _), (5, _), (2, _), (0, _), (1, _)]) 3 d_Mo_fewestNow_192 rfl (nI_1 (i + 1)) (by decide) rfl ?_
                        refine z_goto 19 d_Mo_fewestNow_195 (by decide) ?_
                        refine z_sub (L' := [(4, _), (3, _), (2, _), (0, _), (1, _)]) [0, 1, 4, 5, 6] rfl ?_
                        first
                          | (exfalso; revert c_182; decide)
                          | (have e9 := zfB_f (c := (fmc V nk si)) (l := (fml V nk)) (n := i) (Or.inl (fw_1 c_36))
                             have hb := ih_19 (i + 1) (by omega) (by omega)
                             rw [e9] at hb
                             exact hb)
                          | (have e9 := zfB_f (c := (fmc V nk si)) (l := (fml V nk)) (n := i) (Or.inl (fw_2 c_48))
                             have hb := ih_19 (i + 1) (by omega) (by omega)
                             rw [e9] at hb
                             exact hb)
                          | (have e9 := zfB_f (c := (fmc V nk si)) (l := (fml V nk)) (n := i) (Or.inl (fw_3 c_127))
                             have hb := ih_19 (i + 1) (by omega) (by omega)
                             rw [e9] at hb
                             exact hb)
                          | (have e9 := zfB_f (c := (fmc V nk si)) (l := (fml V nk)) (n := i) (Or.inr ⟨fun q => c_134 (congrArg nI q), (if_neg c_150).trans (decide_eq_false (Int32.not_lt.mpr c_182))⟩)
                             have hb := ih_19 (i + 1) (by omega) (by omega)
                             rw [e9] at hb
                             exact hb)
                          | (have e9 := zfB_f (c := (fmc V nk si)) (l := (fml V nk)) (n := i) (Or.inr ⟨fun q => c_134 (congrArg nI q), (if_pos c_150).trans (decide_eq_false (Int32.not_lt.mpr c_182))⟩)
                             have hb := ih_19 (i + 1) (by omega) (by omega)
                             rw [e9] at hb
                             exact hb)
                          | (have e9 := zfB_t (c := (fmc V nk si)) (l := (fml V nk)) (n := i) (fw_t c_36 c_48 c_127) (Or.inl (hz9.mp c_134))
                             have hb := ih_19 (i + 1) (by omega) (by omega)
                             rw [e9] at hb
                             exact hb)
                          | (have e9 := zfB_t (c := (fmc V nk si)) (l := (fml V nk)) (n := i) (fw_t c_36 c_48 c_127) (Or.inr ((if_neg c_150).trans (decide_eq_true (Int32.not_le.mp c_182))))
                             have hb := ih_19 (i + 1) (by omega) (by omega)
                             rw [e9] at hb
                             exact hb)
                          | (have e9 := zfB_t (c := (fmc V nk si)) (l := (fml V nk)) (n := i) (fw_t c_36 c_48 c_127) (Or.inr ((if_pos c_150).trans (decide_eq_true (Int32.not_le.mp c_182))))
                             have hb := ih_19 (i + 1) (by omega) (by omega)
                             rw [e9] at hb
                             exact hb)
                      · skip
                        refine z_iload 2 d_Mo_fewestNow_185 rfl ?_
                        refine z_goto 191 d_Mo_fewestNow_187 (by decide) ?_
                        refine z_istore_n (L' := [(3, _), (6, _), (5, _), (4, _), (2, _), (0, _), (1, _)]) d_Mo_fewestNow_191 rfl (by decide) rfl ?_
                        refine z_iinc (v := nI (i + 1 + 1)) (L' := [(4, _), (3, _), (6, _), (5, _), (2, _), (0, _), (1, _)]) 3 d_Mo_fewestNow_192 rfl (nI_1 (i + 1)) (by decide) rfl ?_
                        refine z_goto 19 d_Mo_fewestNow_195 (by decide) ?_
                        refine z_sub (L' := [(4, _), (3, _), (2, _), (0, _), (1, _)]) [0, 1, 4, 5, 6] rfl ?_
                        first
                          | (exfalso; revert c_182; decide)
                          | (have e9 := zfB_f (c := (fmc V nk si)) (l := (fml V nk)) (n := i) (Or.inl (fw_1 c_36))
                             have hb := ih_19 (i + 1) (by omega) (by omega)
                             rw [e9] at hb
                             exact hb)
                          | (have e9 := zfB_f (c := (fmc V nk si)) (l := (fml V nk)) (n := i) (Or.inl (fw_2 c_48))
                             have hb := ih_19 (i + 1) (by omega) (by omega)
                             rw [e9] at hb
                             exact hb)
                          | (have e9 := zfB_f (c := (fmc V nk si)) (l := (fml V nk)) (n := i) (Or.inl (fw_3 c_127))
                             have hb := ih_19 (i + 1) (by omega) (by omega)
                             rw [e9] at hb
                             exact hb)
                          | (have e9 := zfB_f (c := (fmc V nk si)) (l := (fml V nk)) (n := i) (Or.inr ⟨fun q => c_134 (congrArg nI q), (if_neg c_150).trans (decide_eq_false (Int32.not_lt.mpr c_182))⟩)
                             have hb := ih_19 (i + 1) (by omega) (by omega)
                             rw [e9] at hb
                             exact hb)
                          | (have e9 := zfB_f (c := (fmc V nk si)) (l := (fml V nk)) (n := i) (Or.inr ⟨fun q => c_134 (congrArg nI q), (if_pos c_150).trans (decide_eq_false (Int32.not_lt.mpr c_182))⟩)
                             have hb := ih_19 (i + 1) (by omega) (by omega)
                             rw [e9] at hb
                             exact hb)
                          | (have e9 := zfB_t (c := (fmc V nk si)) (l := (fml V nk)) (n := i) (fw_t c_36 c_48 c_127) (Or.inl (hz9.mp c_134))
                             have hb := ih_19 (i + 1) (by omega) (by omega)
                             rw [e9] at hb
                             exact hb)
                          | (have e9 := zfB_t (c := (fmc V nk si)) (l := (fml V nk)) (n := i) (fw_t c_36 c_48 c_127) (Or.inr ((if_neg c_150).trans (decide_eq_true (Int32.not_le.mp c_182))))
                             have hb := ih_19 (i + 1) (by omega) (by omega)
                             rw [e9] at hb
                             exact hb)
                          | (have e9 := zfB_t (c := (fmc V nk si)) (l := (fml V nk)) (n := i) (fw_t c_36 c_48 c_127) (Or.inr ((if_pos c_150).trans (decide_eq_true (Int32.not_le.mp c_182))))
                             have hb := ih_19 (i + 1) (by omega) (by omega)
                             rw [e9] at hb
                             exact hb)
                  · skip
                    refine z_goto 192 d_Mo_fewestNow_130 (by decide) ?_
                    refine z_iinc (v := nI (i + 1 + 1)) (L' := [(4, _), (6, _), (5, _), (3, _), (2, _), (0, _), (1, _)]) 2 d_Mo_fewestNow_192 rfl (nI_1 (i + 1)) (by decide) rfl ?_
                    refine z_goto 19 d_Mo_fewestNow_195 (by decide) ?_
                    refine z_sub (L' := [(4, _), (3, _), (2, _), (0, _), (1, _)]) [0, 3, 4, 5, 6] rfl ?_
                    first
                      | (exfalso; revert c_182; decide)
                      | (have e9 := zfB_f (c := (fmc V nk si)) (l := (fml V nk)) (n := i) (Or.inl (fw_1 c_36))
                         have hb := ih_19 (i + 1) (by omega) (by omega)
                         rw [e9] at hb
                         exact hb)
                      | (have e9 := zfB_f (c := (fmc V nk si)) (l := (fml V nk)) (n := i) (Or.inl (fw_2 c_48))
                         have hb := ih_19 (i + 1) (by omega) (by omega)
                         rw [e9] at hb
                         exact hb)
                      | (have e9 := zfB_f (c := (fmc V nk si)) (l := (fml V nk)) (n := i) (Or.inl (fw_3 c_127))
                         have hb := ih_19 (i + 1) (by omega) (by omega)
                         rw [e9] at hb
                         exact hb)
                      | (have e9 := zfB_f (c := (fmc V nk si)) (l := (fml V nk)) (n := i) (Or.inr ⟨fun q => c_134 (congrArg nI q), (if_neg c_150).trans (decide_eq_false (Int32.not_lt.mpr c_182))⟩)
                         have hb := ih_19 (i + 1) (by omega) (by omega)
                         rw [e9] at hb
                         exact hb)
                      | (have e9 := zfB_f (c := (fmc V nk si)) (l := (fml V nk)) (n := i) (Or.inr ⟨fun q => c_134 (congrArg nI q), (if_pos c_150).trans (decide_eq_false (Int32.not_lt.mpr c_182))⟩)
                         have hb := ih_19 (i + 1) (by omega) (by omega)
                         rw [e9] at hb
                         exact hb)
                      | (have e9 := zfB_t (c := (fmc V nk si)) (l := (fml V nk)) (n := i) (fw_t c_36 c_48 c_127) (Or.inl (hz9.mp c_134))
                         have hb := ih_19 (i + 1) (by omega) (by omega)
                         rw [e9] at hb
                         exact hb)
                      | (have e9 := zfB_t (c := (fmc V nk si)) (l := (fml V nk)) (n := i) (fw_t c_36 c_48 c_127) (Or.inr ((if_neg c_150).trans (decide_eq_true (Int32.not_le.mp c_182))))
                         have hb := ih_19 (i + 1) (by omega) (by omega)
                         rw [e9] at hb
                         exact hb)
                      | (have e9 := zfB_t (c := (fmc V nk si)) (l := (fml V nk)) (n := i) (fw_t c_36 c_48 c_127) (Or.inr ((if_pos c_150).trans (decide_eq_true (Int32.not_le.mp c_182))))
                         have hb := ih_19 (i + 1) (by omega) (by omega)
                         rw [e9] at hb
                         exact hb)
                · skip
                  have hj6 : j < nk := Nat.lt_of_not_le fun q => c_71 (nI_le q (by omega))
                  refine z_iload 1 d_Mo_fewestNow_74 rfl ?_
                  refine z_iload 2 d_Mo_fewestNow_76 rfl ?_
                  refine z_iload 0 d_Mo_fewestNow_78 rfl ?_
                  refine z_callS0 (m_Mo_has hs0 hst (nI (i + 1)) (nI j)) ym_Mo_has qM_Mo_76 qS_Mo_has d_Mo_fewestNow_80 rfl (Nat.le_of_ble_eq_true rfl) ⟨Nat.zero_le _, Nat.zero_le _⟩ ⟨Nat.le_of_ble_eq_true rfl, Nat.le_of_ble_eq_true rfl⟩ ?_
                  refine z_if_eq 108 d_Mo_fewestNow_83 (by decide) (fun c_83 => ?_) (fun c_83 => ?_)
                  · skip
                    refine z_iconst (v := 0) d_Mo_fewestNow_108 (by decide) ?_
                    refine z_ior d_Mo_fewestNow_109 ?_
                    first
                      | refine z_topv (zzo_t (zo := (fun k => V (100 + k) 0)) (show zbt (nI (i + 1)) j = true from (zb_n0 _).mp c_83)) ?_
                      | refine z_topv ((Int32.or_zero).trans (zzo_f (zo := (fun k => V (100 + k) 0)) (show zbt (nI (i + 1)) j = false from (zb_0 _).mp c_83))) ?_
                    refine z_istore (L' := [(5, _), (6, _), (4, _), (3, _), (2, _), (0, _), (1, _)]) d_Mo_fewestNow_110 (by decide) rfl ?_
                    refine z_iinc (v := nI (j + 1)) (L' := [(6, _), (5, _), (4, _), (3, _), (2, _), (0, _), (1, _)]) 1 d_Mo_fewestNow_112 rfl (nI_1 j) (by decide) rfl ?_
                    refine z_goto 60 d_Mo_fewestNow_115 (by decide) ?_
                    exact ih_60 (j + 1) (by omega) (by omega)
                  · skip
                    refine z_iconst (v := 1) d_Mo_fewestNow_86 (by decide) ?_
                    refine z_aload_n 5 d_Mo_fewestNow_87 rfl rfl ?_
                    refine z_get zc_Mo 6 (by decide) qF_Mo_16 hM.mo rfl d_Mo_fewestNow_88 ?_
                    refine z_iload 0 d_Mo_fewestNow_91 rfl ?_
                    refine z_callF0 (m_AL_get hs0 hst (hM.kA hj6) hj6 (if_pos hj6)) ym_AL_get zF_AL_get qM_Mo_51 zc_AL (hM.kA hj6).1 d_Mo_fewestNow_93 rfl (Nat.le_of_ble_eq_true rfl) ⟨Nat.zero_le _, Nat.zero_le _⟩ ⟨Nat.le_of_ble_eq_true rfl, Nat.le_of_ble_eq_true rfl⟩ ?_
                    refine z_castS zc_MK qK_Mo_57 (hM.ke hj6) d_Mo_fewestNow_98 ?_
                    refine z_get zc_MK 0 (by decide) qF_Mo_96 (hM.ke hj6) rfl d_Mo_fewestNow_101 ?_
                    refine z_ishl d_Mo_fewestNow_104 ?_
                    refine z_goto 109 d_Mo_fewestNow_105 (by decide) ?_
                    refine z_ior d_Mo_fewestNow_109 ?_
                    first
                      | refine z_topv (zzo_t (zo := (fun k => V (100 + k) 0)) (show zbt (nI (i + 1)) j = true from (zb_n0 _).mp c_83)) ?_
                      | refine z_topv ((Int32.or_zero).trans (zzo_f (zo := (fun k => V (100 + k) 0)) (show zbt (nI (i + 1)) j = false from (zb_0 _).mp c_83))) ?_
                    refine z_istore (L' := [(5, _), (6, _), (4, _), (3, _), (2, _), (0, _), (1, _)]) d_Mo_fewestNow_110 (by decide) rfl ?_
                    refine z_iinc (v := nI (j + 1)) (L' := [(6, _), (5, _), (4, _), (3, _), (2, _), (0, _), (1, _)]) 1 d_Mo_fewestNow_112 rfl (nI_1 j) (by decide) rfl ?_
                    refine z_goto 60 d_Mo_fewestNow_115 (by decide) ?_
                    exact ih_60 (j + 1) (by omega) (by omega)
            exact key_60 (nk + 1) 0 (by omega) (by omega)
          · skip
            refine z_goto 192 d_Mo_fewestNow_51 (by decide) ?_
            refine z_iinc (v := nI (i + 1 + 1)) (L' := [(4, _), (3, _), (2, _), (0, _), (1, _)]) 0 d_Mo_fewestNow_192 rfl (nI_1 (i + 1)) (by decide) rfl ?_
            refine z_goto 19 d_Mo_fewestNow_195 (by decide) ?_
            first
              | (exfalso; revert c_182; decide)
              | (have e9 := zfB_f (c := (fmc V nk si)) (l := (fml V nk)) (n := i) (Or.inl (fw_1 c_36))
                 have hb := ih_19 (i + 1) (by omega) (by omega)
                 rw [e9] at hb
                 exact hb)
              | (have e9 := zfB_f (c := (fmc V nk si)) (l := (fml V nk)) (n := i) (Or.inl (fw_2 c_48))
                 have hb := ih_19 (i + 1) (by omega) (by omega)
                 rw [e9] at hb
                 exact hb)
              | (have e9 := zfB_f (c := (fmc V nk si)) (l := (fml V nk)) (n := i) (Or.inl (fw_3 c_127))
                 have hb := ih_19 (i + 1) (by omega) (by omega)
                 rw [e9] at hb
                 exact hb)
              | (have e9 := zfB_f (c := (fmc V nk si)) (l := (fml V nk)) (n := i) (Or.inr ⟨fun q => c_134 (congrArg nI q), (if_neg c_150).trans (decide_eq_false (Int32.not_lt.mpr c_182))⟩)
                 have hb := ih_19 (i + 1) (by omega) (by omega)
                 rw [e9] at hb
                 exact hb)
              | (have e9 := zfB_f (c := (fmc V nk si)) (l := (fml V nk)) (n := i) (Or.inr ⟨fun q => c_134 (congrArg nI q), (if_pos c_150).trans (decide_eq_false (Int32.not_lt.mpr c_182))⟩)
                 have hb := ih_19 (i + 1) (by omega) (by omega)
                 rw [e9] at hb
                 exact hb)
              | (have e9 := zfB_t (c := (fmc V nk si)) (l := (fml V nk)) (n := i) (fw_t c_36 c_48 c_127) (Or.inl (hz9.mp c_134))
                 have hb := ih_19 (i + 1) (by omega) (by omega)
                 rw [e9] at hb
                 exact hb)
              | (have e9 := zfB_t (c := (fmc V nk si)) (l := (fml V nk)) (n := i) (fw_t c_36 c_48 c_127) (Or.inr ((if_neg c_150).trans (decide_eq_true (Int32.not_le.mp c_182))))
                 have hb := ih_19 (i + 1) (by omega) (by omega)
                 rw [e9] at hb
                 exact hb)
              | (have e9 := zfB_t (c := (fmc V nk si)) (l := (fml V nk)) (n := i) (fw_t c_36 c_48 c_127) (Or.inr ((if_pos c_150).trans (decide_eq_true (Int32.not_le.mp c_182))))
                 have hb := ih_19 (i + 1) (by omega) (by omega)
                 rw [e9] at hb
                 exact hb)
  exact key_19 257 0 (by omega) (by omega)

def mLo (V : Nat → Nat → Int32) (nk si : Nat) : UInt64 := zls (zlsF (zgd (V (300 + si)) (V (400 + si)) (V (200 + si) 3)) (fun k => V (100 + k) 2) nk) (V (200 + si) 0).toNatClampNeg
theorem nI_npos {k : Nat} (h : 1 ≤ k) (hk : k < 2 ^ 20) : ¬ nI k ≤ 0 := fun q => by
  have := (nI_leI (a := k) (b := 0) (by omega) (by decide)).mp (by rw [nI_0]; exact q)
  omega
/-- .. of a double -/
def mAqd (d : zD) (B : Nat → Nat) (nk ns ne ec : Nat) (V : Nat → Nat → Int32) (G : zG) (T : Int32 → UInt64 → (Nat → Nat → Int32) → Prop) : Option Value → zG → Prop := fun r G1 => ∃ (v : UInt64) (W' : Nat → Nat → Int32), r = some (.double v) ∧ T (W' 0 0) v W' ∧ zM d B W' nk ns ne ec G1 ∧ zKn V W' ∧ mFr B nk ns ne G G1
def rLo (nk ns : Nat) (x t : Int32) (u : UInt64) (W : Nat → Nat → Int32) : Prop := (zin x 0 (nI ns - 1) = false ∧ t = 1) ∨ (∃ si, si < ns ∧ x = nI si ∧ t = 0 ∧ u = mLo W nk si)

set_option maxHeartbeats 4000000 in
set_option maxRecDepth 100000 in
theorem m_Mo_lostNowE {g0 : State} {d : zD} {l : Launch} {a0 : Array Value} (hs0 : zS0 d a0 g0) (hst : l.stackTraces = false) {G : zG} {B : Nat → Nat} {V : Nat → Nat → Int32} {nk ns ne ec : Nat} (hM : zM d B V nk ns ne ec G) {si : Nat} (hsi : si < ns) : zMet g0 d l y_Mo_lostNow c_Mo_lostNow 7 ((Option.some Jvm.ClassFile.FieldType.double)) 11 1 9 [.ref (B 0), .int (nI si)] (G) (fun r G1 => (r = some (.double (zls (zlsF (zgd (V (300 + si)) (V (400 + si)) (V (200 + si) 3)) (fun k => V (100 + k) 2) nk) (V (200 + si) 0).toNatClampNeg)) ∧ zmg (zls (zlsF (zgd (V (300 + si)) (V (400 + si)) (V (200 + si) 3)) (fun k => V (100 + k) 2) nk) (V (200 + si) 0).toNatClampNeg) 1400) ∧ zM d B V nk ns ne ec G1 ∧ mFr B nk ns ne G G1) (zNo) := by
  have hnk : nk ≤ 8 := hM.2.1
  have hns : ns ≤ 6 := hM.2.2.1
  have hne : ne ≤ 64 := hM.2.2.2.1
  have hp2 : 2 ^ nk ≤ 256 := Nat.pow_le_pow_right (n := 2) (by decide) hnk
  obtain ⟨t, ht1, ht4, ht⟩ := hM.tn hsi
  refine z_entry hs0 hst (by decide) (Nat.le_of_ble_eq_true rfl) (fun p e s m args below meth c => ?_)
  refine z_aload_n 0 d_Mo_lostNow_0 rfl rfl ?_
  refine z_get zc_Mo 7 (by decide) qF_Mo_20 hM.mo rfl d_Mo_lostNow_1 ?_
  refine z_iload_n 1 d_Mo_lostNow_4 rfl rfl ?_
  refine z_callF0 (m_AL_get hs0 hst (hM.sA hsi) hsi (if_pos hsi)) ym_AL_get zF_AL_get qM_Mo_51 zc_AL (hM.sA hsi).1 d_Mo_lostNow_5 rfl (Nat.le_of_ble_eq_true rfl) ⟨by decide, by decide⟩ ⟨Nat.le_of_ble_eq_true rfl, Nat.le_of_ble_eq_true rfl⟩ ?_
  refine z_castS zc_MS qK_Mo_47 (hM.se hsi).1 d_Mo_lostNow_10 ?_
  refine z_astore_n (L' := [(2, _), (0, _), (1, _)]) d_Mo_lostNow_13 rfl (by decide) rfl ?_
  refine z_bipush (v := 9) d_Mo_lostNow_14 (by decide) ?_
  refine z_newaD 9 qA_double (by decide) rfl (by decide) ⟨by decide, by decide⟩ d_Mo_lostNow_16 (fun a ha hab => ?_)
  have hMo : ∀ w, zM d B V nk ns ne ec (zu G a w) := fun w => hM.out (hM.nn_ ha)
  refine z_astore_n (L' := [(3, _), (2, _), (0, _), (1, _)]) d_Mo_lostNow_18 rfl (by decide) rfl ?_
  refine z_aload_n 0 d_Mo_lostNow_19 rfl rfl ?_
  refine z_iconst (v := (nI 0)) d_Mo_lostNow_20 (by decide) ?_
  refine z_dconst1 d_Mo_lostNow_21 ?_
  refine z_dastN zu_s (show 0 < 9 by decide) (by decide) d_Mo_lostNow_22 ?_
  refine z_one ?_
  refine z_iconst (v := (nI 0)) d_Mo_lostNow_23 (by decide) ?_
  refine z_istore (L' := [(4, _), (3, _), (2, _), (0, _), (1, _)]) d_Mo_lostNow_24 (by decide) rfl ?_
  have key_26 : ∀ (n : Nat) (i : Nat) (D2 : Nat → UInt64), nk - i < n → (i ≤ nk) → (∀ j, j < 9 → zmg (D2 j) (1024 + 35 * i)) → (∀ j, j < 9 → D2 j = zlsF (zgd (V (300 + si)) (V (400 + si)) (V (200 + si) 3)) (fun k => V (100 + k) 2) i j) → Z g0 d y_Mo_lostNow c_Mo_lostNow 7 ((Option.some Jvm.ClassFile.FieldType.double)) [] p l e (zR 11 1 9) s m args below meth c (vx_MQ below (zQc g0 d (fun r G1 => (r = some (.double (zls (zlsF (zgd (V (300 + si)) (V (400 + si)) (V (200 + si) 3)) (fun k => V (100 + k) 2) nk) (V (200 + si) 0).toNatClampNeg)) ∧ zmg (zls (zlsF (zgd (V (300 + si)) (V (400 + si)) (V (200 + si) 3)) (fun k => V (100 + k) 2) nk) (V (200 + si) 0).toNatClampNeg) 1400) ∧ zM d B V nk ns ne ec G1 ∧ mFr B nk ns ne G G1)) (zXc g0 d (zNo)) args s 1 9 (zA g0)) 1 9 (zu G a (zDb d 9 D2)) [(4, .int (nI i)), (3, .ref a), (2, .ref (B (200 + si))), (0, .ref (B 0)), (1, .int (nI si))] [] 26 := by
    intro n
    induction n with
    | zero => intro i D2 h0; exact absurd h0 (Nat.not_lt_zero _)
    | succ n ih_26 =>
      intro i D2 hm_26 hi hm2 hx2
      refine z_iload 0 d_Mo_lostNow_26 rfl ?_
      refine z_aload_n 3 d_Mo_lostNow_28 rfl rfl ?_
      refine z_get zc_Mo 6 (by decide) qF_Mo_16 (hMo _).mo rfl d_Mo_lostNow_29 ?_
      refine z_callF0 (m_AL_size hs0 hst (hMo _).kl) ym_AL_size zF_AL_size qM_Mo_94 zc_AL (hMo _).kl d_Mo_lostNow_32 rfl (Nat.le_of_ble_eq_true rfl) ⟨by decide, by decide⟩ ⟨Nat.le_of_ble_eq_true rfl, Nat.le_of_ble_eq_true rfl⟩ ?_
      refine z_icmp_ge 140 d_Mo_lostNow_37 (by decide) (fun c_37 => ?_) (fun c_37 => ?_)
      · skip
        obtain rfl : nk = i := by
          have := (nI_leI (a := nk) (b := i) (by omega) (by omega)).mp c_37
          omega
        have hm6 : ∀ j, j < 9 → zmg (zlsF (zgd (V (300 + si)) (V (400 + si)) (V (200 + si) 3)) (fun k => V (100 + k) 2) nk j) 1304 := fun j hj => by rw [← hx2 j hj]; exact (hm2 j hj).mono (by omega)
        refine z_dconst0 d_Mo_lostNow_140 ?_
        refine z_dstore (L' := [(4, _), (3, _), (2, _), (0, _), (1, _)]) d_Mo_lostNow_141 (by decide) rfl ?_
        refine z_iconst (v := (nI 0)) d_Mo_lostNow_143 (by decide) ?_
        refine z_istore (L' := [(6, _), (4, _), (3, _), (2, _), (0, _), (1, _)]) d_Mo_lostNow_144 (by decide) rfl ?_
        have key_146 : ∀ (n : Nat) (i : Nat), t - i < n → (i ≤ t) → (zmg (zls (zlsF (zgd (V (300 + si)) (V (400 + si)) (V (200 + si) 3)) (fun k => V (100 + k) 2) nk) i) (1304 + 2 * i)) → Z g0 d y_Mo_lostNow c_Mo_lostNow 7 ((Option.some Jvm.ClassFile.FieldType.double)) [] p l e (zR 11 1 9) s m args below meth c (vx_MQ below (zQc g0 d (fun r G1 => (r = some (.double (zls (zlsF (zgd (V (300 + si)) (V (400 + si)) (V (200 + si) 3)) (fun k => V (100 + k) 2) nk) (V (200 + si) 0).toNatClampNeg)) ∧ zmg (zls (zlsF (zgd (V (300 + si)) (V (400 + si)) (V (200 + si) 3)) (fun k => V (100 + k) 2) nk) (V (200 + si) 0).toNatClampNeg) 1400) ∧ zM d B V nk ns ne ec G1 ∧ mFr B nk ns ne G G1)) (zXc g0 d (zNo)) args s 1 9 (zA g0)) 1 9 (zu G a (zDb d 9 D2)) [(6, .int (nI i)), (4, .double (zls (zlsF (zgd (V (300 + si)) (V (400 + si)) (V (200 + si) 3)) (fun k => V (100 + k) 2) nk) i)), (3, .ref a), (2, .ref (B (200 + si))), (0, .ref (B 0)), (1, .int (nI si))] [] 146 := by
          intro n
          induction n with
          | zero => intro i h0; exact absurd h0 (Nat.not_lt_zero _)
          | succ n ih_146 =>
            intro i hm_146 hi hv
            refine z_iload 0 d_Mo_lostNow_146 rfl ?_
            refine z_aload_n 3 d_Mo_lostNow_148 rfl rfl ?_
            refine z_get zc_MS 0 (by decide) qF_Mo_69 ((hMo _).se hsi).1 rfl d_Mo_lostNow_149 ?_
            refine z_topv ht ?_
            refine z_icmp_ge 170 d_Mo_lostNow_152 (by decide) (fun c_152 => ?_) (fun c_152 => ?_)
            · skip
              obtain rfl : t = i := by
                have := (nI_leI (a := t) (b := i) (by omega) (by omega)).mp c_152
                omega
              refine z_dload 1 d_Mo_lostNow_170 rfl ?_
              exact z_dret rfl (⟨by rw [ht, nI_clamp (by omega)]; exact ⟨rfl, hv.mono (by omega)⟩, hMo _, zFr.new ha⟩) (by first | decide | omega) (by first | decide | omega) d_Mo_lostNow_172
            · skip
              have hi6 : i < t := Nat.lt_of_not_le fun q => c_152 (nI_le q (by omega))
              refine z_dload 1 d_Mo_lostNow_155 rfl ?_
              refine z_aload_n 2 d_Mo_lostNow_157 rfl rfl ?_
              refine z_iload 0 d_Mo_lostNow_158 rfl ?_
              refine z_daldN zu_s (show i < 9 by omega) (by decide) d_Mo_lostNow_160 ?_
              rw [hx2 i (by omega)]
              refine z_dadd d_Mo_lostNow_161 ((zmg_a hv ((hm6 i (by omega)).mono (by omega)) (by omega)).nn (by omega)) ?_
              refine z_dstore (L' := [(4, _), (6, _), (3, _), (2, _), (0, _), (1, _)]) d_Mo_lostNow_162 (by decide) rfl ?_
              refine z_iinc (v := nI (i + 1)) (L' := [(6, _), (4, _), (3, _), (2, _), (0, _), (1, _)]) 1 d_Mo_lostNow_164 rfl (nI_1 i) (by decide) rfl ?_
              refine z_goto 146 d_Mo_lostNow_167 (by decide) ?_
              exact ih_146 (i + 1) (by omega) (by omega) ((zmg_a hv ((hm6 i (by omega)).mono (by omega)) (by omega)).mono (by omega))
        exact key_146 (t + 1) 0 (by omega) (by omega) (zmg_0.mono (by omega))
      · skip
        have hi6 : i < nk := Nat.lt_of_not_le fun q => c_37 (nI_le q (by omega))
        refine z_aload_n 2 d_Mo_lostNow_40 rfl rfl ?_
        refine z_iload 0 d_Mo_lostNow_41 rfl ?_
        refine z_callV0 (m_MS_isGood hs0 hst ((hMo _).se hsi) (show i < 8 by omega)) ym_MS_isGood qM_Mo_159 qI_MS_isGood qV_MS_MS_isGood zc_MS ((hMo _).se hsi).1 d_Mo_lostNow_43 rfl (Nat.le_of_ble_eq_true rfl) ⟨by decide, by decide⟩ ⟨Nat.le_of_ble_eq_true rfl, Nat.le_of_ble_eq_true rfl⟩ ?_
        refine z_if_ne 52 d_Mo_lostNow_46 (by decide) (fun c_46 => ?_) (fun c_46 => ?_)
        · skip
          have hcu : (zgd (V (300 + si)) (V (400 + si)) (V (200 + si) 3)) i = true := (zb_n0 _).mp c_46
          refine z_aload_n 3 d_Mo_lostNow_52 rfl rfl ?_
          refine z_get zc_Mo 6 (by decide) qF_Mo_16 (hMo _).mo rfl d_Mo_lostNow_53 ?_
          refine z_iload 0 d_Mo_lostNow_56 rfl ?_
          refine z_callF0 (m_AL_get hs0 hst ((hMo _).kA hi6) hi6 (if_pos hi6)) ym_AL_get zF_AL_get qM_Mo_51 zc_AL ((hMo _).kA hi6).1 d_Mo_lostNow_58 rfl (Nat.le_of_ble_eq_true rfl) ⟨by decide, by decide⟩ ⟨Nat.le_of_ble_eq_true rfl, Nat.le_of_ble_eq_true rfl⟩ ?_
          refine z_castS zc_MK qK_Mo_57 ((hMo _).ke hi6) d_Mo_lostNow_63 ?_
          refine z_get zc_MK 2 (by decide) qF_Mo_196 ((hMo _).ke hi6) rfl d_Mo_lostNow_66 ?_
          refine z_istore (L' := [(5, _), (4, _), (3, _), (2, _), (0, _), (1, _)]) d_Mo_lostNow_69 (by decide) rfl ?_
          refine z_bipush (v := (nI 8)) d_Mo_lostNow_71 (by decide) ?_
          refine z_istore (L' := [(6, _), (5, _), (4, _), (3, _), (2, _), (0, _), (1, _)]) d_Mo_lostNow_73 (by decide) rfl ?_
          have key_75 : ∀ (n : Nat) (k : Nat) (D3 : Nat → UInt64), k < n → (k ≤ 8) → (∀ j, j < 9 → zmg (D3 j) (1024 + 35 * i + 35)) → (∀ j, j ≤ k → zmg (D3 j) (1024 + 35 * i)) → (∀ j, j < 9 → D3 j = if k < j then zrk (V (100 + i) 2) D2 j else D2 j) → Z g0 d y_Mo_lostNow c_Mo_lostNow 7 ((Option.some Jvm.ClassFile.FieldType.double)) [] p l e (zR 11 1 9) s m args below meth c (vx_MQ below (zQc g0 d (fun r G1 => (r = some (.double (zls (zlsF (zgd (V (300 + si)) (V (400 + si)) (V (200 + si) 3)) (fun k => V (100 + k) 2) nk) (V (200 + si) 0).toNatClampNeg)) ∧ zmg (zls (zlsF (zgd (V (300 + si)) (V (400 + si)) (V (200 + si) 3)) (fun k => V (100 + k) 2) nk) (V (200 + si) 0).toNatClampNeg) 1400) ∧ zM d B V nk ns ne ec G1 ∧ mFr B nk ns ne G G1)) (zXc g0 d (zNo)) args s 1 9 (zA g0)) 1 9 (zu G a (zDb d 9 D3)) [(6, .int (nI k)), (5, .int (V (100 + i) 2)), (4, .int (nI i)), (3, .ref a), (2, .ref (B (200 + si))), (0, .ref (B 0)), (1, .int (nI si))] [] 75 := by
            intro n
            induction n with
            | zero => intro k D3 h0; exact absurd h0 (Nat.not_lt_zero _)
            | succ n ih_75 =>
              intro k D3 hm_75 hk hm3 hm4 hx3
              refine z_iload 0 d_Mo_lostNow_75 rfl ?_
              refine z_if_le 120 d_Mo_lostNow_77 (by decide) (fun c_77 => ?_) (fun c_77 => ?_)
              · skip
                have m0 := zmg_m (hm4 0 (by omega)) (zmg_i (V (100 + i) 2)) (by omega) (by omega)
                have v0 := zmg_d m0 (by omega) (by omega)
                have hk0 : k = 0 := by
                  by_cases h : k = 0
                  · exact h
                  · exact absurd c_77 (nI_npos (by omega) (by omega))
                refine z_aload_n 3 d_Mo_lostNow_120 rfl rfl ?_
                refine z_iconst (v := (nI 0)) d_Mo_lostNow_121 (by decide) ?_
                refine z_aload_n 3 d_Mo_lostNow_122 rfl rfl ?_
                refine z_iconst (v := (nI 0)) d_Mo_lostNow_123 (by decide) ?_
                refine z_daldN zu_s (show 0 < 9 by decide) (by decide) d_Mo_lostNow_124 ?_
                refine z_iload 1 d_Mo_lostNow_125 rfl ?_
                refine z_i2d d_Mo_lostNow_127 ?_
                refine z_dmul d_Mo_lostNow_128 (m0.nn (by omega)) ?_
                refine z_ldc2d qXd_Mo_250 d_Mo_lostNow_129 ?_
                refine z_ddiv d_Mo_lostNow_132 (v0.nn (by omega)) ?_
                refine z_dastN zu_s (show 0 < 9 by decide) (by decide) d_Mo_lostNow_133 ?_
                refine z_one ?_
                refine z_iinc (v := nI (i + 1)) (L' := [(4, _), (6, _), (5, _), (3, _), (2, _), (0, _), (1, _)]) 2 d_Mo_lostNow_134 rfl (nI_1 i) (by decide) rfl ?_
                refine z_goto 26 d_Mo_lostNow_137 (by decide) ?_
                refine z_sub (L' := [(4, _), (3, _), (2, _), (0, _), (1, _)]) [0, 3, 4, 5, 6] rfl ?_
                first
                  | exact ih_26 (i + 1) _ (by omega) (by omega) (fun j hj => (hm2 j hj).mono (by omega)) (fun j hj => (hx2 j hj).trans (congrFun (zlsF_f (r := (fun k => V (100 + k) 2)) hcn).symm j))
                  | exact ih_26 (i + 1) _ (by omega) (by omega) (fun j hj => by
                      by_cases ej : j = 0
                      · subst ej; rw [vu_s]; exact v0.mono (by omega)
                      · rw [vu_n ej]; exact (hm3 j hj).mono (by omega)) (fun j hj => by
                      rw [zlsF_t (r := (fun k => V (100 + k) 2)) hcu, ← zrk_congr hx2 j hj]
                      by_cases ej : j = 0
                      · subst ej
                        have h1 := hx3 0 (by decide)
                        rw [if_neg (by omega)] at h1
                        rw [vu_s, h1]
                        rfl
                      · rw [vu_n ej, hx3 j hj, if_pos (by omega)])
              · skip
                have hk1 : 1 ≤ k := Nat.pos_of_ne_zero fun e => c_77 (by subst e; decide)
                have m1 := zmg_m (hm4 k (by omega)) (zmg_i (V (100 + i) 2)) (by omega) (by omega)
                have v1 := zmg_d m1 (by omega) (by omega)
                have m2 := zmg_m (hm4 (k - 1) (by omega)) (zmg_i (100 - V (100 + i) 2)) (by omega) (by omega)
                have v2 := zmg_d m2 (by omega) (by omega)
                have ms9 := zmg_a v1 v2 (by omega)
                refine z_aload_n 3 d_Mo_lostNow_80 rfl rfl ?_
                refine z_iload 0 d_Mo_lostNow_81 rfl ?_
                refine z_aload_n 3 d_Mo_lostNow_83 rfl rfl ?_
                refine z_iload 0 d_Mo_lostNow_84 rfl ?_
                refine z_daldN zu_s (show k < 9 by omega) (by decide) d_Mo_lostNow_86 ?_
                refine z_iload 1 d_Mo_lostNow_87 rfl ?_
                refine z_i2d d_Mo_lostNow_89 ?_
                refine z_dmul d_Mo_lostNow_90 (m1.nn (by omega)) ?_
                refine z_ldc2d qXd_Mo_250 d_Mo_lostNow_91 ?_
                refine z_ddiv d_Mo_lostNow_94 (v1.nn (by omega)) ?_
                refine z_aload_n 3 d_Mo_lostNow_95 rfl rfl ?_
                refine z_iload 0 d_Mo_lostNow_96 rfl ?_
                refine z_iconst (v := 1) d_Mo_lostNow_98 (by decide) ?_
                refine z_isub d_Mo_lostNow_99 ?_
                refine z_topv (nI_s1 hk1 (by omega)) ?_
                refine z_daldN zu_s (show k - 1 < 9 by omega) (by decide) d_Mo_lostNow_100 ?_
                refine z_bipush (v := 100) d_Mo_lostNow_101 (by decide) ?_
                refine z_iload 1 d_Mo_lostNow_103 rfl ?_
                refine z_isub d_Mo_lostNow_105 ?_
                refine z_i2d d_Mo_lostNow_106 ?_
                refine z_dmul d_Mo_lostNow_107 (m2.nn (by omega)) ?_
                refine z_ldc2d qXd_Mo_250 d_Mo_lostNow_108 ?_
                refine z_ddiv d_Mo_lostNow_111 (v2.nn (by omega)) ?_
                refine z_dadd d_Mo_lostNow_112 (ms9.nn (by omega)) ?_
                refine z_dastN zu_s (show k < 9 by omega) (by decide) d_Mo_lostNow_113 ?_
                refine z_one ?_
                refine z_iinc (v := nI (k - 1)) (L' := [(6, _), (5, _), (4, _), (3, _), (2, _), (0, _), (1, _)]) 0 d_Mo_lostNow_114 rfl ((z_m1 _).trans (nI_s1 hk1 (by omega))) (by decide) rfl ?_
                refine z_goto 75 d_Mo_lostNow_117 (by decide) ?_
                refine ih_75 (k - 1) _ (by omega) (by omega) (fun j hj => ?_) (fun j hj => ?_) (fun j hj => ?_)
                · by_cases ej : j = k
                  · subst ej; rw [vu_s]; exact ms9
                  · rw [vu_n ej]; exact hm3 j hj
                · rw [vu_n (by omega)]; exact hm4 j (by omega)
                · by_cases ej : j = k
                  · subst ej
                    have h1 := hx3 j hj
                    rw [if_neg (Nat.lt_irrefl j)] at h1
                    have h2 := hx3 (j - 1) (by omega)
                    rw [if_neg (by omega)] at h2
                    rw [vu_s, if_pos (by omega), zrk_p hk1, h1, h2]
                  · rw [vu_n ej, hx3 j hj]
                    by_cases c : k < j
                    · rw [if_pos c, if_pos (by omega)]
                    · rw [if_neg c, if_neg (by omega)]
          exact key_75 9 8 _ (by omega) (by omega) (fun j hj => (hm2 j hj).mono (by omega)) (fun j hj => hm2 j (by omega)) (fun j hj => by rw [if_neg (by omega)])
        · skip
          have hcn : (zgd (V (300 + si)) (V (400 + si)) (V (200 + si) 3)) i = false := (zb_0 _).mp c_46
          refine z_goto 134 d_Mo_lostNow_49 (by decide) ?_
          refine z_iinc (v := nI (i + 1)) (L' := [(4, _), (3, _), (2, _), (0, _), (1, _)]) 0 d_Mo_lostNow_134 rfl (nI_1 i) (by decide) rfl ?_
          refine z_goto 26 d_Mo_lostNow_137 (by decide) ?_
          first
            | exact ih_26 (i + 1) _ (by omega) (by omega) (fun j hj => (hm2 j hj).mono (by omega)) (fun j hj => (hx2 j hj).trans (congrFun (zlsF_f (r := (fun k => V (100 + k) 2)) hcn).symm j))
            | exact ih_26 (i + 1) _ (by omega) (by omega) (fun j hj => by
                by_cases ej : j = 0
                · subst ej; rw [vu_s]; exact v0.mono (by omega)
                · rw [vu_n ej]; exact (hm3 j hj).mono (by omega)) (fun j hj => by
                rw [zlsF_t (r := (fun k => V (100 + k) 2)) hcu, ← zrk_congr hx2 j hj]
                by_cases ej : j = 0
                · subst ej
                  have h1 := hx3 0 (by decide)
                  rw [if_neg (by omega)] at h1
                  rw [vu_s, h1]
                  rfl
                · rw [vu_n ej, hx3 j hj, if_pos (by omega)])
  exact key_26 (nk + 1) 0 _ (by omega) (by omega) (fun j hj => by
      by_cases ej : j = 0
      · subst ej; rw [vu_s]; exact zmg_1
      · rw [vu_n ej]; exact zmg_0) (fun j hj => by
      by_cases ej : j = 0
      · subst ej; rw [vu_s]; rfl
      · rw [vu_n ej]; exact (zlo0_n ej).symm)

def ocW (V : Nat → Nat → Int32) (si : Nat) : Bool := zall (roK (V 7) (gvs (V (300 + si))) (zgp (zgd (V (300 + si)) (V (400 + si)) (V (200 + si) 3))) (V (200 + si) 0).toNatClampNeg) 9
theorem ocW_t {V : Nat → Nat → Int32} {si t : Nat} (ht : V (200 + si) 0 = nI t) (h4 : t < 2 ^ 20) (h : zall (roK (V 7) (gvs (V (300 + si))) (zgp (zgd (V (300 + si)) (V (400 + si)) (V (200 + si) 3))) t) 9 = true) : some (Value.int 1) = some (Value.int (zb (ocW V si))) := by
  unfold ocW
  rw [ht, nI_clamp (by omega), h]
  rfl
theorem ocW_f {V : Nat → Nat → Int32} {si t : Nat} (ht : V (200 + si) 0 = nI t) (h4 : t < 2 ^ 20) (h : zall (roK (V 7) (gvs (V (300 + si))) (zgp (zgd (V (300 + si)) (V (400 + si)) (V (200 + si) 3))) t) 9 = false) : some (Value.int 0) = some (Value.int (zb (ocW V si))) := by
  unfold ocW
  rw [ht, nI_clamp (by omega), h]
  rfl
def rSnd (V : Nat → Nat → Int32) (si : Nat) : Bool := decide (V (200 + si) 5 ≠ 0) || ocW V si
/-- the reference's numbers are as they must be -/
def rdOk (V : Nat → Nat → Int32) (nk ns : Nat) : Prop := (∀ si, si < ns → ∀ k, k < 8 → V (400 + si) k ≤ V (200 + si) 3 ∧ (V (300 + si) k = -1 ∨ ∃ s, s < 97 ∧ V (300 + si) k = nI s)) ∧ ∀ k, k < nk → ∃ l, l < 97 ∧ V (100 + k) 3 = nI l

theorem rSnd_0 {V : Nat → Nat → Int32} {i : Nat} (c : ¬ V (200 + i) 5 = 0) : rSnd V i = true := by
  unfold rSnd
  rw [decide_eq_true (p := V (200 + i) 5 ≠ 0) c, Bool.true_or]
theorem rSnd_1 {V : Nat → Nat → Int32} {i : Nat} (c : ¬ zb (ocW V i) = 0) : rSnd V i = true := by
  unfold rSnd
  rw [(zb_n0 _).mp c, Bool.or_true]
theorem rSnd_2 {V : Nat → Nat → Int32} {i : Nat} (c : V (200 + i) 5 = 0) (c2 : zb (ocW V i) = 0) : rSnd V i = false := by
  unfold rSnd
  rw [(zb_0 _).mp c2, Bool.or_false, decide_eq_false (p := V (200 + i) 5 ≠ 0) (fun z => z c)]
theorem zbs_t {b : Bool} (h : b = true) : some (Value.int 1) = some (Value.int (zb b)) := by subst h; rfl
theorem zbs_f {b : Bool} (h : b = false) : some (Value.int 0) = some (Value.int (zb b)) := by subst h; rfl
theorem zin_sh {x : Int32} (h : x = -1 ∨ ∃ s, s < 97 ∧ x = nI s) : zin x (-1) 96 = true := by
  rcases h with rfl | ⟨s, hs, rfl⟩
  · decide
  · have key : ∀ s, s < 97 → zin (nI s) (-1) 96 = true := by decide +kernel
    exact key s hs

theorem rdOk.k {V V' : Nat → Nat → Int32} {nk ns : Nat} (h : zKn V V') (hs : ns ≤ 6) (hr : rdOk V nk ns) : rdOk V' nk ns := by
  refine ⟨fun si hsi k hk => ?_, fun k hk => ?_⟩
  · rw [h.row (r := 200 + si) (by omega) (by omega) (by omega), h.row (r := 300 + si) (by omega) (by omega) (by omega), h.row (r := 400 + si) (by omega) (by omega) (by omega)]
    exact hr.1 si hsi k hk
  · rw [h.row (r := 100 + k) (by omega) (by omega) (by omega)]
    exact hr.2 k hk

set_option maxHeartbeats 4000000 in
set_option maxRecDepth 100000 in
theorem m_Mo_isOneCurveE {g0 : State} {d : zD} {l : Launch} {a0 : Array Value} (hs0 : zS0 d a0 g0) (hst : l.stackTraces = false) {G : zG} {B : Nat → Nat} {V : Nat → Nat → Int32} {nk ns ne ec : Nat} (hM : zM d B V nk ns ne ec G) {si : Nat} (hsi : si < ns) {iv : Nat → Nat} (hiv : zIv (V 7) iv) (hsh : ∀ k, k < 8 → V (300 + si) k = -1 ∨ ∃ s, s < 97 ∧ V (300 + si) k = nI s) : zMet g0 d l y_Mo_isOneCurve c_Mo_isOneCurve 6 ((Option.some Jvm.ClassFile.FieldType.boolean)) 3 2 16 [.ref (B 0), .ref (B (200 + si))] (G) (fun r G1 => r = some (.int (zb (ocW V si))) ∧ zM d B V nk ns ne ec G1 ∧ mFr B nk ns ne G G1) (zNo) := by
  have hnk : nk ≤ 8 := hM.2.1
  have hns : ns ≤ 6 := hM.2.2.1
  have hne : ne ≤ 64 := hM.2.2.2.1
  have hp2 : 2 ^ nk ≤ 256 := Nat.pow_le_pow_right (n := 2) (by decide) hnk
  obtain ⟨t, ht1, ht4, ht⟩ := hM.tn hsi
  have hgs9 : ∀ k, k < 9 → (zgp (zgd (V (300 + si)) (V (400 + si)) (V (200 + si) 3))) k = true → gvs (V (300 + si)) k = nI (gvs (V (300 + si)) k).toNatClampNeg ∧ (gvs (V (300 + si)) k).toNatClampNeg < 97 := fun k hk h1 => by
    match k, hk, h1 with
    | 0, _, h1 => cases h1
    | k + 1, hk, h1 =>
      have h2 : (zgd (V (300 + si)) (V (400 + si)) (V (200 + si) 3)) k = true := h1
      unfold zgd at h2
      rw [Bool.and_eq_true, decide_eq_true_eq] at h2
      obtain ⟨j, hj, e⟩ := (hsh k (by omega)).resolve_left h2.1
      show V (300 + si) k = nI (V (300 + si) k).toNatClampNeg ∧ (V (300 + si) k).toNatClampNeg < 97
      rw [e, nI_clamp (by omega)]
      exact ⟨rfl, hj⟩
  refine z_entry hs0 hst (by decide) (Nat.le_of_ble_eq_true rfl) (fun p e s m args below meth c => ?_)
  refine z_bipush (v := 8) d_Mo_isOneCurve_0 (by decide) ?_
  refine z_newaI 8 qA_int (by decide) rfl (by decide) ⟨by decide, by decide⟩ d_Mo_isOneCurve_2 (fun a ha hab => ?_)
  refine z_astore_n (L' := [(2, _), (0, _), (1, _)]) d_Mo_isOneCurve_4 rfl (by decide) rfl ?_
  refine z_bipush (v := 8) d_Mo_isOneCurve_5 (by decide) ?_
  refine z_newaI 8 qA_int (by decide) rfl (by decide) ⟨by decide, by decide⟩ d_Mo_isOneCurve_7 (fun b hb hbb => ?_)
  have nab : a ≠ b := ne_of_none zu_s hb
  have hb0 : G b = none := by rw [zu_n nab.symm] at hb; exact hb
  have hMo : ∀ u w, zM d B V nk ns ne ec (zu (zu G a u) b w) := fun u w => (hM.out (hM.nn_ ha)).out (hM.nn_ hb0)
  refine z_astore_n (L' := [(3, _), (2, _), (0, _), (1, _)]) d_Mo_isOneCurve_9 rfl (by decide) rfl ?_
  refine z_iconst (v := (nI 0)) d_Mo_isOneCurve_10 (by decide) ?_
  refine z_istore (L' := [(4, _), (3, _), (2, _), (0, _), (1, _)]) d_Mo_isOneCurve_11 (by decide) rfl ?_
  refine z_iconst (v := (nI 0)) d_Mo_isOneCurve_13 (by decide) ?_
  refine z_istore (L' := [(5, _), (4, _), (3, _), (2, _), (0, _), (1, _)]) d_Mo_isOneCurve_14 (by decide) rfl ?_
  have key_16 : ∀ (n : Nat) (i : Nat) (ct : Nat) (P2 N2 : Nat → Int32), 8 - i < n → (i ≤ 8) → (ct ≤ i) → (ocS (V 7) (gvs (V (300 + si))) (zgp (zgd (V (300 + si)) (V (400 + si)) (V (200 + si) 3))) t P2 N2 ct (i + 1)) → Z g0 d y_Mo_isOneCurve c_Mo_isOneCurve 6 ((Option.some Jvm.ClassFile.FieldType.boolean)) [] p l e (zR 3 2 16) s m args below meth c (vx_MQ below (zQc g0 d (fun r G1 => r = some (.int (zb (ocW V si))) ∧ zM d B V nk ns ne ec G1 ∧ mFr B nk ns ne G G1)) (zXc g0 d (zNo)) args s 2 16 (zA g0)) 2 16 (zu (zu G a (zI d 8 P2)) b (zI d 8 N2)) [(5, .int (nI i)), (4, .int (nI ct)), (3, .ref b), (2, .ref a), (0, .ref (B 0)), (1, .ref (B (200 + si)))] [] 16 := by
    intro n
    induction n with
    | zero => intro i ct P2 N2 h0; exact absurd h0 (Nat.not_lt_zero _)
    | succ n ih_16 =>
      intro i ct P2 N2 hm_16 hi hct hoc
      refine z_iload 0 d_Mo_isOneCurve_16 rfl ?_
      refine z_bipush (v := 8) d_Mo_isOneCurve_18 (by decide) ?_
      refine z_icmp_ge 108 d_Mo_isOneCurve_20 (by decide) (fun c_20 => ?_) (fun c_20 => ?_)
      · skip
        obtain rfl : i = 8 := by
          have := (nI_leI (a := 8) (b := i) (by decide) (by omega)).mp c_20
          omega
        refine z_iconst (v := 1) d_Mo_isOneCurve_108 (by decide) ?_
        exact z_zret rfl (by first | rfl | exact zb_nar _) (⟨ocW_t ht (by omega) hoc.2.2, hMo _ _, (zFr.new ha).nw hb0⟩) (by first | decide | omega) (by first | decide | omega) d_Mo_isOneCurve_109
      · skip
        have hi6 : i < 8 := Nat.lt_of_not_le fun q => c_20 (nI_le (a := 8) (b := i) q (by omega))
        refine z_aload_n 5 d_Mo_isOneCurve_23 rfl rfl ?_
        refine z_iload 0 d_Mo_isOneCurve_24 rfl ?_
        refine z_callV0 (m_MS_isGood hs0 hst ((hMo _ _).se hsi) hi6) ym_MS_isGood qM_Mo_159 qI_MS_isGood qV_MS_MS_isGood zc_MS ((hMo _ _).se hsi).1 d_Mo_isOneCurve_26 rfl (Nat.le_of_ble_eq_true rfl) ⟨by decide, by decide⟩ ⟨Nat.le_of_ble_eq_true rfl, Nat.le_of_ble_eq_true rfl⟩ ?_
        refine z_if_ne 35 d_Mo_isOneCurve_29 (by decide) (fun c_29 => ?_) (fun c_29 => ?_)
        · skip
          have hfi : (zgp (zgd (V (300 + si)) (V (400 + si)) (V (200 + si) 3))) (i + 1) = true := (zb_n0 _).mp c_29
          refine z_iload 1 d_Mo_isOneCurve_35 rfl ?_
          refine z_aload_n 5 d_Mo_isOneCurve_37 rfl rfl ?_
          refine z_get zc_MS 0 (by decide) qF_Mo_69 ((hMo _ _).se hsi).1 rfl d_Mo_isOneCurve_38 ?_
          refine z_topv ht ?_
          refine z_icmp_ne 68 d_Mo_isOneCurve_41 (by decide) (fun c_41 => ?_) (fun c_41 => ?_)
          · skip
            refine z_iload 1 d_Mo_isOneCurve_68 rfl ?_
            refine z_aload_n 5 d_Mo_isOneCurve_70 rfl rfl ?_
            refine z_get zc_MS 0 (by decide) qF_Mo_69 ((hMo _ _).se hsi).1 rfl d_Mo_isOneCurve_71 ?_
            refine z_topv ht ?_
            refine z_icmp_ne 80 d_Mo_isOneCurve_74 (by decide) (fun c_74 => ?_) (fun c_74 => ?_)
            · skip
              refine z_aload_n 3 d_Mo_isOneCurve_80 rfl rfl ?_
              refine z_iload 1 d_Mo_isOneCurve_81 rfl ?_
              refine z_iload 0 d_Mo_isOneCurve_83 rfl ?_
              refine z_iconst (v := 1) d_Mo_isOneCurve_85 (by decide) ?_
              refine z_iadd d_Mo_isOneCurve_86 ?_
              refine z_topv (nI_1 i) ?_
              refine z_iastN ((zu_n nab).trans zu_s) (show ct < 8 by omega) (by decide) d_Mo_isOneCurve_87 ?_
              refine z_geq (G' := zu (zu G a (zI d 8 (upd P2 ct (nI (i + 1))))) b (zI d 8 N2)) (by rw [zu_comm nab.symm, zu_zu] <;> rfl) ?_
              refine z_aload_n 2 d_Mo_isOneCurve_88 rfl rfl ?_
              refine z_iload 1 d_Mo_isOneCurve_89 rfl ?_
              refine z_aload_n 5 d_Mo_isOneCurve_91 rfl rfl ?_
              refine z_get zc_MS 6 (by decide) qF_Mo_46 ((hMo _ _).se hsi).1 rfl d_Mo_isOneCurve_92 ?_
              refine z_iload 0 d_Mo_isOneCurve_95 rfl ?_
              refine z_ialdN ((hMo _ _).se hsi).2.1 (hi6) (by decide) d_Mo_isOneCurve_97 ?_
              refine z_iastN zu_s (show ct < 8 by omega) (by decide) d_Mo_isOneCurve_98 ?_
              refine z_one ?_
              refine z_iinc (v := nI (ct + 1)) (L' := [(4, _), (5, _), (3, _), (2, _), (0, _), (1, _)]) 1 d_Mo_isOneCurve_99 rfl (nI_1 ct) (by decide) rfl ?_
              refine z_iinc (v := nI (i + 1)) (L' := [(5, _), (4, _), (3, _), (2, _), (0, _), (1, _)]) 1 d_Mo_isOneCurve_102 rfl (nI_1 i) (by decide) rfl ?_
              refine z_goto 16 d_Mo_isOneCurve_105 (by decide) ?_
              first
                | exact absurd c_74 c_41
                | exact absurd c_41 c_74
                | exact ih_16 (i + 1) (ct + 1) _ _ (by omega) (by omega) (by omega) (hoc.add hfi (fun q => c_74 (congrArg nI q)))
                | exact ih_16 (i + 1) ct _ _ (by omega) (by omega) (by omega) (hoc.agree hctt (hth.symm.trans c_63))
                | exact ih_16 (i + 1) ct _ _ (by omega) (by omega) (by omega) (hoc.skip hfn)
            · skip
              refine z_goto 102 d_Mo_isOneCurve_77 (by decide) ?_
              refine z_iinc (v := nI (i + 1)) (L' := [(5, _), (4, _), (3, _), (2, _), (0, _), (1, _)]) 0 d_Mo_isOneCurve_102 rfl (nI_1 i) (by decide) rfl ?_
              refine z_goto 16 d_Mo_isOneCurve_105 (by decide) ?_
              first
                | exact absurd c_74 c_41
                | exact absurd c_41 c_74
                | exact ih_16 (i + 1) (ct + 1) _ _ (by omega) (by omega) (by omega) (hoc.add hfi (fun q => c_74 (congrArg nI q)))
                | exact ih_16 (i + 1) ct _ _ (by omega) (by omega) (by omega) (hoc.agree hctt (hth.symm.trans c_63))
                | exact ih_16 (i + 1) ct _ _ (by omega) (by omega) (by omega) (hoc.skip hfn)
          · skip
            have hctt : ct = t := (nI_eq (by omega) (by omega)).mp c_41
            have hth := hoc.th (by omega) hiv (g := fun k => (gvs (V (300 + si)) k).toNatClampNeg) hgs9 hctt (x := i + 1) (by omega)
            refine z_aload_n 4 d_Mo_isOneCurve_44 rfl rfl ?_
            refine z_aload_n 3 d_Mo_isOneCurve_45 rfl rfl ?_
            refine z_aload_n 2 d_Mo_isOneCurve_46 rfl rfl ?_
            refine z_iload 1 d_Mo_isOneCurve_47 rfl ?_
            refine z_iload 0 d_Mo_isOneCurve_49 rfl ?_
            refine z_iconst (v := 1) d_Mo_isOneCurve_51 (by decide) ?_
            refine z_iadd d_Mo_isOneCurve_52 ?_
            refine z_topv (nI_1 i) ?_
            refine z_callV0 (m_Mo_through hs0 hst (hMo _ _) ((zu_n nab).trans zu_s) zu_s (show ct ≤ 8 by omega) (by decide) (nI (i + 1))) ym_Mo_through qM_Mo_84 qI_Mo_through qV_Mo_Mo_through zc_Mo (hMo _ _).mo d_Mo_isOneCurve_53 rfl (Nat.le_of_ble_eq_true rfl) ⟨by decide, by decide⟩ ⟨Nat.le_of_ble_eq_true rfl, Nat.le_of_ble_eq_true rfl⟩ ?_
            refine z_aload_n 5 d_Mo_isOneCurve_56 rfl rfl ?_
            refine z_get zc_MS 6 (by decide) qF_Mo_46 ((hMo _ _).se hsi).1 rfl d_Mo_isOneCurve_57 ?_
            refine z_iload 0 d_Mo_isOneCurve_60 rfl ?_
            refine z_ialdN ((hMo _ _).se hsi).2.1 (hi6) (by decide) d_Mo_isOneCurve_62 ?_
            refine z_icmp_eq 68 d_Mo_isOneCurve_63 (by decide) (fun c_63 => ?_) (fun c_63 => ?_)
            · skip
              refine z_iload 1 d_Mo_isOneCurve_68 rfl ?_
              refine z_aload_n 5 d_Mo_isOneCurve_70 rfl rfl ?_
              refine z_get zc_MS 0 (by decide) qF_Mo_69 ((hMo _ _).se hsi).1 rfl d_Mo_isOneCurve_71 ?_
              refine z_topv ht ?_
              refine z_icmp_ne 80 d_Mo_isOneCurve_74 (by decide) (fun c_74 => ?_) (fun c_74 => ?_)
              · skip
                refine z_aload_n 3 d_Mo_isOneCurve_80 rfl rfl ?_
                refine z_iload 1 d_Mo_isOneCurve_81 rfl ?_
                refine z_iload 0 d_Mo_isOneCurve_83 rfl ?_
                refine z_iconst (v := 1) d_Mo_isOneCurve_85 (by decide) ?_
                refine z_iadd d_Mo_isOneCurve_86 ?_
                refine z_topv (nI_1 i) ?_
                refine z_iastN ((zu_n nab).trans zu_s) (show ct < 8 by omega) (by decide) d_Mo_isOneCurve_87 ?_
                refine z_geq (G' := zu (zu G a (zI d 8 (upd P2 ct (nI (i + 1))))) b (zI d 8 N2)) (by rw [zu_comm nab.symm, zu_zu] <;> rfl) ?_
                refine z_aload_n 2 d_Mo_isOneCurve_88 rfl rfl ?_
                refine z_iload 1 d_Mo_isOneCurve_89 rfl ?_
                refine z_aload_n 5 d_Mo_isOneCurve_91 rfl rfl ?_
                refine z_get zc_MS 6 (by decide) qF_Mo_46 ((hMo _ _).se hsi).1 rfl d_Mo_isOneCurve_92 ?_
                refine z_iload 0 d_Mo_isOneCurve_95 rfl ?_
                refine z_ialdN ((hMo _ _).se hsi).2.1 (hi6) (by decide) d_Mo_isOneCurve_97 ?_
                refine z_iastN zu_s (show ct < 8 by omega) (by decide) d_Mo_isOneCurve_98 ?_
                refine z_one ?_
                refine z_iinc (v := nI (ct + 1)) (L' := [(4, _), (5, _), (3, _), (2, _), (0, _), (1, _)]) 1 d_Mo_isOneCurve_99 rfl (nI_1 ct) (by decide) rfl ?_
                refine z_iinc (v := nI (i + 1)) (L' := [(5, _), (4, _), (3, _), (2, _), (0, _), (1, _)]) 1 d_Mo_isOneCurve_102 rfl (nI_1 i) (by decide) rfl ?_
                refine z_goto 16 d_Mo_isOneCurve_105 (by decide) ?_
                first
                  | exact absurd c_74 c_41
                  | exact absurd c_41 c_74
                  | exact ih_16 (i + 1) (ct + 1) _ _ (by omega) (by omega) (by omega) (hoc.add hfi (fun q => c_74 (congrArg nI q)))
                  | exact ih_16 (i + 1) ct _ _ (by omega) (by omega) (by omega) (hoc.agree hctt (hth.symm.trans c_63))
                  | exact ih_16 (i + 1) ct _ _ (by omega) (by omega) (by omega) (hoc.skip hfn)
              · skip
                refine z_goto 102 d_Mo_isOneCurve_77 (by decide) ?_
                refine z_iinc (v := nI (i + 1)) (L' := [(5, _), (4, _), (3, _), (2, _), (0, _), (1, _)]) 0 d_Mo_isOneCurve_102 rfl (nI_1 i) (by decide) rfl ?_
                refine z_goto 16 d_Mo_isOneCurve_105 (by decide) ?_
                first
                  | exact absurd c_74 c_41
                  | exact absurd c_41 c_74
                  | exact ih_16 (i + 1) (ct + 1) _ _ (by omega) (by omega) (by omega) (hoc.add hfi (fun q => c_74 (congrArg nI q)))
                  | exact ih_16 (i + 1) ct _ _ (by omega) (by omega) (by omega) (hoc.agree hctt (hth.symm.trans c_63))
                  | exact ih_16 (i + 1) ct _ _ (by omega) (by omega) (by omega) (hoc.skip hfn)
            · skip
              refine z_iconst (v := 0) d_Mo_isOneCurve_66 (by decide) ?_
              exact z_zret rfl (by first | rfl | exact zb_nar _) (⟨ocW_f ht (by omega) (hoc.fail hfi hctt (by omega) (fun q => c_63 (hth.trans q))), hMo _ _, (zFr.new ha).nw hb0⟩) (by first | decide | omega) (by first | decide | omega) d_Mo_isOneCurve_67
        · skip
          have hfn : (zgp (zgd (V (300 + si)) (V (400 + si)) (V (200 + si) 3))) (i + 1) = false := (zb_0 _).mp c_29
          refine z_goto 102 d_Mo_isOneCurve_32 (by decide) ?_
          refine z_iinc (v := nI (i + 1)) (L' := [(5, _), (4, _), (3, _), (2, _), (0, _), (1, _)]) 0 d_Mo_isOneCurve_102 rfl (nI_1 i) (by decide) rfl ?_
          refine z_goto 16 d_Mo_isOneCurve_105 (by decide) ?_
          first
            | exact absurd c_74 c_41
            | exact absurd c_41 c_74
            | exact ih_16 (i + 1) (ct + 1) _ _ (by omega) (by omega) (by omega) (hoc.add hfi (fun q => c_74 (congrArg nI q)))
            | exact ih_16 (i + 1) ct _ _ (by omega) (by omega) (by omega) (hoc.agree hctt (hth.symm.trans c_63))
            | exact ih_16 (i + 1) ct _ _ (by omega) (by omega) (by omega) (hoc.skip hfn)
  exact key_16 9 0 0 _ _ (by omega) (by omega) (by omega) (ocS.z.skip rfl)
set_option maxHeartbeats 4000000 in
set_option maxRecDepth 100000 in
theorem m_Mo_isSoundNowE {g0 : State} {d : zD} {l : Launch} {a0 : Array Value} (hs0 : zS0 d a0 g0) (hst : l.stackTraces = false) {G : zG} {B : Nat → Nat} {V : Nat → Nat → Int32} {nk ns ne ec : Nat} (hM : zM d B V nk ns ne ec G) {iv : Nat → Nat} (hiv : zIv (V 7) iv) (hrd : rdOk V nk ns) : zMet g0 d l y_Mo_isSoundNow c_Mo_isSoundNow 4 ((Option.some Jvm.ClassFile.FieldType.boolean)) 11 12 96 [.ref (B 0)] (G) (fun r G1 => r = some (.int (zb (zall (rSnd V) ns))) ∧ zM d B V nk ns ne ec G1 ∧ mFr B nk ns ne G G1) (zNo) := by
  have hnk : nk ≤ 8 := hM.2.1
  have hns : ns ≤ 6 := hM.2.2.1
  have hne : ne ≤ 64 := hM.2.2.2.1
  have hp2 : 2 ^ nk ≤ 256 := Nat.pow_le_pow_right (n := 2) (by decide) hnk
  refine z_entry hs0 hst (by decide) (Nat.le_of_ble_eq_true rfl) (fun p e s m args below meth c => ?_)
  refine z_iconst (v := (nI 0)) d_Mo_isSoundNow_0 (by decide) ?_
  refine z_istore_n (L' := [(1, _), (0, _)]) d_Mo_isSoundNow_1 rfl (by decide) rfl ?_
  have key_2 : ∀ (n : Nat) (i : Nat) (G2 : zG), ns - i < n → (i ≤ ns) → (zM d B V nk ns ne ec G2) → (mFr B nk ns ne G G2) → (zall (rSnd V) i = true) → Z g0 d y_Mo_isSoundNow c_Mo_isSoundNow 4 ((Option.some Jvm.ClassFile.FieldType.boolean)) [] p l e (zR 11 12 96) s m args below meth c (vx_MQ below (zQc g0 d (fun r G1 => r = some (.int (zb (zall (rSnd V) ns))) ∧ zM d B V nk ns ne ec G1 ∧ mFr B nk ns ne G G1)) (zXc g0 d (zNo)) args s 12 96 (zA g0)) (2 * i) (16 * i) (G2) [(1, .int (nI i)), (0, .ref (B 0))] [] 2 := by
    intro n
    induction n with
    | zero => intro i G2 h0; exact absurd h0 (Nat.not_lt_zero _)
    | succ n ih_2 =>
      intro i G2 hm_2 hi hM2 hF2 hall
      refine z_iload_n 0 d_Mo_isSoundNow_2 rfl rfl ?_
      refine z_aload_n 1 d_Mo_isSoundNow_3 rfl rfl ?_
      refine z_get zc_Mo 7 (by decide) qF_Mo_20 hM2.mo rfl d_Mo_isSoundNow_4 ?_
      refine z_callF0 (m_AL_size hs0 hst hM2.sl) ym_AL_size zF_AL_size qM_Mo_94 zc_AL hM2.sl d_Mo_isSoundNow_7 rfl (Nat.le_of_ble_eq_true rfl) ⟨by show _ ≤ 12; omega, by show _ ≤ 96; omega⟩ ⟨Nat.le_of_ble_eq_true rfl, Nat.le_of_ble_eq_true rfl⟩ ?_
      refine z_icmp_ge 96 d_Mo_isSoundNow_12 (by decide) (fun c_12 => ?_) (fun c_12 => ?_)
      · skip
        obtain rfl : ns = i := by
          have := (nI_leI (a := ns) (b := i) (by omega) (by omega)).mp c_12
          omega
        refine z_iconst (v := (nI 0)) d_Mo_isSoundNow_96 (by decide) ?_
        refine z_istore_n (L' := [(1, _), (0, _)]) d_Mo_isSoundNow_97 rfl (by decide) rfl ?_
        have key_98 : ∀ (n : Nat) (j : Nat), nk - j < n → (j ≤ nk) → Z g0 d y_Mo_isSoundNow c_Mo_isSoundNow 4 ((Option.some Jvm.ClassFile.FieldType.boolean)) [] p l e (zR 11 12 96) s m args below meth c (vx_MQ below (zQc g0 d (fun r G1 => r = some (.int (zb (zall (rSnd V) ns))) ∧ zM d B V nk ns ne ec G1 ∧ mFr B nk ns ne G G1)) (zXc g0 d (zNo)) args s 12 96 (zA g0)) (2 * ns) (16 * ns) (G2) [(1, .int (nI j)), (0, .ref (B 0))] [] 98 := by
          intro n
          induction n with
          | zero => intro j h0; exact absurd h0 (Nat.not_lt_zero _)
          | succ n ih_98 =>
            intro j hm_98 hj
            refine z_iload_n 0 d_Mo_isSoundNow_98 rfl rfl ?_
            refine z_aload_n 1 d_Mo_isSoundNow_99 rfl rfl ?_
            refine z_get zc_Mo 6 (by decide) qF_Mo_16 hM2.mo rfl d_Mo_isSoundNow_100 ?_
            refine z_callF0 (m_AL_size hs0 hst hM2.kl) ym_AL_size zF_AL_size qM_Mo_94 zc_AL hM2.kl d_Mo_isSoundNow_103 rfl (Nat.le_of_ble_eq_true rfl) ⟨by show _ ≤ 12; omega, by show _ ≤ 96; omega⟩ ⟨Nat.le_of_ble_eq_true rfl, Nat.le_of_ble_eq_true rfl⟩ ?_
            refine z_icmp_ge 144 d_Mo_isSoundNow_108 (by decide) (fun c_108 => ?_) (fun c_108 => ?_)
            · skip
              skip
              refine z_aload_n 1 d_Mo_isSoundNow_144 rfl rfl ?_
              refine z_get zc_Mo 8 (by decide) qF_Mo_23 hM2.mo rfl d_Mo_isSoundNow_145 ?_
              refine z_callF0 (m_AL_size hs0 hst hM2.el) ym_AL_size zF_AL_size qM_Mo_94 zc_AL hM2.el d_Mo_isSoundNow_148 rfl (Nat.le_of_ble_eq_true rfl) ⟨by show _ ≤ 12; omega, by show _ ≤ 96; omega⟩ ⟨Nat.le_of_ble_eq_true rfl, Nat.le_of_ble_eq_true rfl⟩ ?_
              refine z_bipush (v := 64) d_Mo_isSoundNow_153 (by decide) ?_
              refine z_icmp_gt 162 d_Mo_isSoundNow_155 (by decide) (fun c_155 => absurd ((nI_ltI (a := 64) (b := ne) (by decide) (by omega)).mp c_155) (by omega)) (fun c_155 => ?_)
              refine z_iconst (v := 1) d_Mo_isSoundNow_158 (by decide) ?_
              refine z_goto 163 d_Mo_isSoundNow_159 (by decide) ?_
              exact z_zret rfl (by first | rfl | exact zb_nar _) (⟨zbs_t hall, hM2, hF2⟩) (by first | decide | omega) (by first | decide | omega) d_Mo_isSoundNow_163
            · skip
              have hj6 : j < nk := Nat.lt_of_not_le fun q => c_108 (nI_le q (by omega))
              refine z_aload_n 1 d_Mo_isSoundNow_111 rfl rfl ?_
              refine z_get zc_Mo 6 (by decide) qF_Mo_16 hM2.mo rfl d_Mo_isSoundNow_112 ?_
              refine z_iload_n 0 d_Mo_isSoundNow_115 rfl rfl ?_
              refine z_callF0 (m_AL_get hs0 hst (hM2.kA hj6) hj6 (if_pos hj6)) ym_AL_get zF_AL_get qM_Mo_51 zc_AL (hM2.kA hj6).1 d_Mo_isSoundNow_116 rfl (Nat.le_of_ble_eq_true rfl) ⟨by show _ ≤ 12; omega, by show _ ≤ 96; omega⟩ ⟨Nat.le_of_ble_eq_true rfl, Nat.le_of_ble_eq_true rfl⟩ ?_
              refine z_castS zc_MK qK_Mo_57 (hM2.ke hj6) d_Mo_isSoundNow_121 ?_
              refine z_get zc_MK 3 (by decide) qF_Mo_59 (hM2.ke hj6) rfl d_Mo_isSoundNow_124 ?_
              refine z_iconst (v := 0) d_Mo_isSoundNow_127 (by decide) ?_
              refine z_bipush (v := 96) d_Mo_isSoundNow_128 (by decide) ?_
              refine z_callS0 (m_Mo_in hs0 hst _ 0 96) ym_Mo_in qM_Mo_115 qS_Mo_in d_Mo_isSoundNow_130 rfl (Nat.le_of_ble_eq_true rfl) ⟨by show _ ≤ 12; omega, by show _ ≤ 96; omega⟩ ⟨Nat.le_of_ble_eq_true rfl, Nat.le_of_ble_eq_true rfl⟩ ?_
              refine z_if_ne 138 d_Mo_isSoundNow_133 (by decide) (fun c_133 => ?_) (fun c_133 => absurd ((zb_0 _).mp c_133) (by obtain ⟨l9, hl9, el9⟩ := hrd.2 j hj6; rw [el9, show zin (nI l9) 0 96 = true from zin_ok (n := 96) (by omega) (by decide)]; decide))
              refine z_iinc (v := nI (j + 1)) (L' := [(1, _), (0, _)]) 0 d_Mo_isSoundNow_138 rfl (nI_1 j) (by decide) rfl ?_
              refine z_goto 98 d_Mo_isSoundNow_141 (by decide) ?_
              exact ih_98 (j + 1) (by omega) (by omega)
        exact key_98 (nk + 1) 0 (by omega) (by omega)
      · skip
        have hi6 : i < ns := Nat.lt_of_not_le fun q => c_12 (nI_le q (by omega))
        refine z_aload_n 1 d_Mo_isSoundNow_15 rfl rfl ?_
        refine z_get zc_Mo 7 (by decide) qF_Mo_20 hM2.mo rfl d_Mo_isSoundNow_16 ?_
        refine z_iload_n 0 d_Mo_isSoundNow_19 rfl rfl ?_
        refine z_callF0 (m_AL_get hs0 hst (hM2.sA hi6) hi6 (if_pos hi6)) ym_AL_get zF_AL_get qM_Mo_51 zc_AL (hM2.sA hi6).1 d_Mo_isSoundNow_20 rfl (Nat.le_of_ble_eq_true rfl) ⟨by show _ ≤ 12; omega, by show _ ≤ 96; omega⟩ ⟨Nat.le_of_ble_eq_true rfl, Nat.le_of_ble_eq_true rfl⟩ ?_
        refine z_castS zc_MS qK_Mo_47 (hM2.se hi6).1 d_Mo_isSoundNow_25 ?_
        refine z_astore_n (L' := [(2, _), (1, _), (0, _)]) d_Mo_isSoundNow_28 rfl (by decide) rfl ?_
        refine z_aload_n 0 d_Mo_isSoundNow_29 rfl rfl ?_
        refine z_get zc_MS 5 (by decide) qF_Mo_165 (hM2.se hi6).1 rfl d_Mo_isSoundNow_30 ?_
        refine z_if_ne 46 d_Mo_isSoundNow_33 (by decide) (fun c_33 => ?_) (fun c_33 => ?_)
        · skip
          refine z_iconst (v := (nI 0)) d_Mo_isSoundNow_46 (by decide) ?_
          refine z_istore_n (L' := [(3, _), (2, _), (1, _), (0, _)]) d_Mo_isSoundNow_47 rfl (by decide) rfl ?_
          have key_48 : ∀ (n : Nat) (j : Nat) (G3 : zG), 8 - j < n → (j ≤ 8) → (zM d B V nk ns ne ec G3) → (mFr B nk ns ne G G3) → (rSnd V i = true) → Z g0 d y_Mo_isSoundNow c_Mo_isSoundNow 4 ((Option.some Jvm.ClassFile.FieldType.boolean)) [] p l e (zR 11 12 96) s m args below meth c (vx_MQ below (zQc g0 d (fun r G1 => r = some (.int (zb (zall (rSnd V) ns))) ∧ zM d B V nk ns ne ec G1 ∧ mFr B nk ns ne G G1)) (zXc g0 d (zNo)) args s 12 96 (zA g0)) (2 * (i + 1)) (16 * (i + 1)) (G3) [(3, .int (nI j)), (2, .ref (B (200 + i))), (1, .int (nI i)), (0, .ref (B 0))] [] 48 := by
            intro n
            induction n with
            | zero => intro j G3 h0; exact absurd h0 (Nat.not_lt_zero _)
            | succ n ih_48 =>
              intro j G3 hm_48 hj hM3 hF3 hok3
              refine z_iload_n 0 d_Mo_isSoundNow_48 rfl rfl ?_
              refine z_bipush (v := 8) d_Mo_isSoundNow_49 (by decide) ?_
              refine z_icmp_ge 90 d_Mo_isSoundNow_51 (by decide) (fun c_51 => ?_) (fun c_51 => ?_)
              · skip
                refine z_iinc (v := nI (i + 1)) (L' := [(1, _), (3, _), (2, _), (0, _)]) 2 d_Mo_isSoundNow_90 rfl (nI_1 i) (by decide) rfl ?_
                refine z_goto 2 d_Mo_isSoundNow_93 (by decide) ?_
                refine z_sub (L' := [(1, _), (0, _)]) [0, 3] rfl ?_
                exact ih_2 (i + 1) _ (by omega) (by omega) hM3 hF3 (zall_s hall hok3)
              · skip
                have hj8 : j < 8 := Nat.lt_of_not_le fun q => c_51 (nI_le (a := 8) (b := j) q (by omega))
                refine z_aload_n 1 d_Mo_isSoundNow_54 rfl rfl ?_
                refine z_get zc_MS 7 (by decide) qF_Mo_140 (hM3.se hi6).1 rfl d_Mo_isSoundNow_55 ?_
                refine z_iload_n 0 d_Mo_isSoundNow_58 rfl rfl ?_
                refine z_ialdN (hM3.se hi6).2.2.1 (hj8) (by decide) d_Mo_isSoundNow_59 ?_
                refine z_aload_n 1 d_Mo_isSoundNow_60 rfl rfl ?_
                refine z_get zc_MS 3 (by decide) qF_Mo_153 (hM3.se hi6).1 rfl d_Mo_isSoundNow_61 ?_
                refine z_icmp_gt 82 d_Mo_isSoundNow_64 (by decide) (fun c_64 => absurd (hrd.1 i hi6 j hj8).1 (Int32.not_le.mpr c_64)) (fun c_64 => ?_)
                refine z_aload_n 1 d_Mo_isSoundNow_67 rfl rfl ?_
                refine z_get zc_MS 6 (by decide) qF_Mo_46 (hM3.se hi6).1 rfl d_Mo_isSoundNow_68 ?_
                refine z_iload_n 0 d_Mo_isSoundNow_71 rfl rfl ?_
                refine z_ialdN (hM3.se hi6).2.1 (hj8) (by decide) d_Mo_isSoundNow_72 ?_
                refine z_iconst (v := (-1)) d_Mo_isSoundNow_73 (by decide) ?_
                refine z_bipush (v := 96) d_Mo_isSoundNow_74 (by decide) ?_
                refine z_callS0 (m_Mo_in hs0 hst _ (-1) 96) ym_Mo_in qM_Mo_115 qS_Mo_in d_Mo_isSoundNow_76 rfl (Nat.le_of_ble_eq_true rfl) ⟨by show _ ≤ 12; omega, by show _ ≤ 96; omega⟩ ⟨Nat.le_of_ble_eq_true rfl, Nat.le_of_ble_eq_true rfl⟩ ?_
                refine z_if_ne 84 d_Mo_isSoundNow_79 (by decide) (fun c_79 => ?_) (fun c_79 => absurd ((zb_0 _).mp c_79) (by rw [zin_sh (hrd.1 i hi6 j hj8).2]; decide))
                refine z_iinc (v := nI (j + 1)) (L' := [(3, _), (2, _), (1, _), (0, _)]) 0 d_Mo_isSoundNow_84 rfl (nI_1 j) (by decide) rfl ?_
                refine z_goto 48 d_Mo_isSoundNow_87 (by decide) ?_
                exact ih_48 (j + 1) _ (by omega) (by omega) hM3 hF3 hok3
          refine z_widen (k := 2 * (i + 1)) (n := 16 * (i + 1)) (by omega) (by omega) ?_
          exact key_48 9 0 _ (by omega) (by omega) (by first | exact hM3 | exact hM2) (by first | exact hF3 | exact hF2) (by first | exact rSnd_0 c_33 | exact rSnd_1 c_41)
        · skip
          refine z_aload_n 2 d_Mo_isSoundNow_36 rfl rfl ?_
          refine z_aload_n 0 d_Mo_isSoundNow_37 rfl rfl ?_
          refine z_callVp1 ((m_Mo_isOneCurveE hs0 hst hM2 hi6 hiv (fun k hk => (hrd.1 i hi6 k hk).2))) ym_Mo_isOneCurve qM_Mo_259 qI_Mo_isOneCurve qV_Mo_Mo_isOneCurve zc_Mo hM2.mo d_Mo_isSoundNow_38 rfl (Nat.le_of_ble_eq_true rfl) ⟨by show _ ≤ 12; omega, by show _ ≤ 96; omega⟩ ⟨Nat.le_of_ble_eq_true rfl, Nat.le_of_ble_eq_true rfl⟩ (fun r_38 G_38 hp_38 => ?_)
          obtain ⟨hr_38, hM3, hF3⟩ := hp_38
          obtain rfl : r_38 = _ := hr_38
          replace hF3 := hF2.tr hF3
          refine z_if_ne 46 d_Mo_isSoundNow_41 (by decide) (fun c_41 => ?_) (fun c_41 => ?_)
          · skip
            refine z_iconst (v := (nI 0)) d_Mo_isSoundNow_46 (by decide) ?_
            refine z_istore_n (L' := [(3, _), (2, _), (1, _), (0, _)]) d_Mo_isSoundNow_47 rfl (by decide) rfl ?_
            have key_48 : ∀ (n : Nat) (j : Nat) (G3 : zG), 8 - j < n → (j ≤ 8) → (zM d B V nk ns ne ec G3) → (mFr B nk ns ne G G3) → (rSnd V i = true) → Z g0 d y_Mo_isSoundNow c_Mo_isSoundNow 4 ((Option.some Jvm.ClassFile.FieldType.boolean)) [] p l e (zR 11 12 96) s m args below meth c (vx_MQ below (zQc g0 d (fun r G1 => r = some (.int (zb (zall (rSnd V) ns))) ∧ zM d B V nk ns ne ec G1 ∧ mFr B nk ns ne G G1)) (zXc g0 d (zNo)) args s 12 96 (zA g0)) (2 * (i + 1)) (16 * (i + 1)) (G3) [(3, .int (nI j)), (2, .ref (B (200 + i))), (1, .int (nI i)), (0, .ref (B 0))] [] 48 := by
              intro n
              induction n with
              | zero => intro j G3 h0; exact absurd h0 (Nat.not_lt_zero _)
              | succ n ih_48 =>
                intro j G3 hm_48 hj hM3 hF3 hok3
                refine z_iload_n 0 d_Mo_isSoundNow_48 rfl rfl ?_
                refine z_bipush (v := 8) d_Mo_isSoundNow_49 (by decide) ?_
                refine z_icmp_ge 90 d_Mo_isSoundNow_51 (by decide) (fun c_51 => ?_) (fun c_51 => ?_)
                · skip
                  refine z_iinc (v := nI (i + 1)) (L' := [(1, _), (3, _), (2, _), (0, _)]) 2 d_Mo_isSoundNow_90 rfl (nI_1 i) (by decide) rfl ?_
                  refine z_goto 2 d_Mo_isSoundNow_93 (by decide) ?_
                  refine z_sub (L' := [(1, _), (0, _)]) [0, 3] rfl ?_
                  exact ih_2 (i + 1) _ (by omega) (by omega) hM3 hF3 (zall_s hall hok3)
                · skip
                  have hj8 : j < 8 := Nat.lt_of_not_le fun q => c_51 (nI_le (a := 8) (b := j) q (by omega))
                  refine z_aload_n 1 d_Mo_isSoundNow_54 rfl rfl ?_
                  refine z_get zc_MS 7 (by decide) qF_Mo_140 (hM3.se hi6).1 rfl d_Mo_isSoundNow_55 ?_
                  refine z_iload_n 0 d_Mo_isSoundNow_58 rfl rfl ?_
                  refine z_ialdN (hM3.se hi6).2.2.1 (hj8) (by decide) d_Mo_isSoundNow_59 ?_
                  refine z_aload_n 1 d_Mo_isSoundNow_60 rfl rfl ?_
                  refine z_get zc_MS 3 (by decide) qF_Mo_153 (hM3.se hi6).1 rfl d_Mo_isSoundNow_61 ?_
                  refine z_icmp_gt 82 d_Mo_isSoundNow_64 (by decide) (fun c_64 => absurd (hrd.1 i hi6 j hj8).1 (Int32.not_le.mpr c_64)) (fun c_64 => ?_)
                  refine z_aload_n 1 d_Mo_isSoundNow_67 rfl rfl ?_
                  refine z_get zc_MS 6 (by decide) qF_Mo_46 (hM3.se hi6).1 rfl d_Mo_isSoundNow_68 ?_
                  refine z_iload_n 0 d_Mo_isSoundNow_71 rfl rfl ?_
                  refine z_ialdN (hM3.se hi6).2.1 (hj8) (by decide) d_Mo_isSoundNow_72 ?_
                  refine z_iconst (v := (-1)) d_Mo_isSoundNow_73 (by decide) ?_
                  refine z_bipush (v := 96) d_Mo_isSoundNow_74 (by decide) ?_
                  refine z_callS0 (m_Mo_in hs0 hst _ (-1) 96) ym_Mo_in qM_Mo_115 qS_Mo_in d_Mo_isSoundNow_76 rfl (Nat.le_of_ble_eq_true rfl) ⟨by show _ ≤ 12; omega, by show _ ≤ 96; omega⟩ ⟨Nat.le_of_ble_eq_true rfl, Nat.le_of_ble_eq_true rfl⟩ ?_
                  refine z_if_ne 84 d_Mo_isSoundNow_79 (by decide) (fun c_79 => ?_) (fun c_79 => absurd ((zb_0 _).mp c_79) (by rw [zin_sh (hrd.1 i hi6 j hj8).2]; decide))
                  refine z_iinc (v := nI (j + 1)) (L' := [(3, _), (2, _), (1, _), (0, _)]) 0 d_Mo_isSoundNow_84 rfl (nI_1 j) (by decide) rfl ?_
                  refine z_goto 48 d_Mo_isSoundNow_87 (by decide) ?_
                  exact ih_48 (j + 1) _ (by omega) (by omega) hM3 hF3 hok3
            refine z_widen (k := 2 * (i + 1)) (n := 16 * (i + 1)) (by omega) (by omega) ?_
            exact key_48 9 0 _ (by omega) (by omega) (by first | exact hM3 | exact hM2) (by first | exact hF3 | exact hF2) (by first | exact rSnd_0 c_33 | exact rSnd_1 c_41)
          · skip
            refine z_iconst (v := 0) d_Mo_isSoundNow_44 (by decide) ?_
            exact z_zret rfl (by first | rfl | exact zb_nar _) (⟨zbs_f (zall_no (f := rSnd V) (i := i) (rSnd_2 c_33 c_41) ns hi6), hM3, hF3⟩) (by first | decide | omega) (by first | decide | omega) d_Mo_isSoundNow_45
  exact key_2 (ns + 1) 0 _ (by omega) (by omega) hM zFr.rf rfl

def rSeD (V : Nat → Nat → Int32) (nk si : Nat) (x : Int64) : Int64 := dgS x (fun w => mSeA V nk si (V (200 + si) 0).toNatClampNeg w) (fun k w => qSm V si k (nI w)) (fun w => qWd V nk si (2 ^ nk - 1) (V (200 + si) 0).toNatClampNeg (nI w)) (mFw V nk si) (mLo V nk si) nk
def rAl (V : Nat → Nat → Int32) (nk ns ne : Nat) : Int64 := dgE (dgT (fun s => rSeD V nk s) (zdk (zdg 7507 (fun w => (mBkA V nk ns ne w).toInt64) 12) (fun k w => (mKeA V ns k w).toInt64) 7 nk) ns) (fun e => V (500 + e) 3) ne (zall (rSnd V) ns)
/-- .. of a long -/
def mAql (d : zD) (B : Nat → Nat) (nk ns ne ec : Nat) (V : Nat → Nat → Int32) (G : zG) : Option Value → zG → Prop := fun r G1 => ∃ (W1 W' : Nat → Nat → Int32), r = some (.long (rAl W1 nk ns ne)) ∧ zKn V W1 ∧ zM d B W' nk ns ne ec G1 ∧ zKn V W' ∧ mFr B nk ns ne G G1
section RGK
variable {V V2 : Nat → Nat → Int32} {nk ns ne si t : Nat}
theorem znode_k (h : zKp msc V V2) (o lf : Int32) : ∀ r k, znode V2 ne o lf r k = znode V ne o lf r k
  | 0, k => by
    show (if nI k = o then lf else if k < ne then V2 (500 + k) 3 else 0) = (if nI k = o then lf else if k < ne then V (500 + k) 3 else 0)
    rw [h.r (r := 500 + k) (by omega) (by omega)]
  | r + 1, k => by
    show zr9 (31 * znode V2 ne o lf r (2 * k) + 17 * znode V2 ne o lf r (2 * k + 1) + 5) = zr9 (31 * znode V ne o lf r (2 * k) + 17 * znode V ne o lf r (2 * k + 1) + 5)
    rw [znode_k h o lf r (2 * k), znode_k h o lf r (2 * k + 1)]
theorem zKp.f1 (h : zKp msc V V2) (j : Nat) : (fun k => V2 (100 + k) j) = (fun k => V (100 + k) j) := funext fun k => by rw [h.r (r := 100 + k) (by omega) (by omega)]
theorem mBkA_k (h : zKp msc V V2) {w : Nat} : mBkA V2 nk ns ne w = mBkA V nk ns ne w := by
  unfold mBkA
  rw [h.r (r := 0) (by decide) (by decide), znode_k h, show (fun k => decide (V2 (100 + k) 4 ≠ 0)) = (fun k => decide (V (100 + k) 4 ≠ 0)) from funext fun k => by rw [h.r (r := 100 + k) (by omega) (by omega)], show (fun i => nI (zpop 9 (zsetN (zgd (V2 (300 + i)) (V2 (400 + i)) (V2 (200 + i) 3)) 8))) = (fun i => nI (zpop 9 (zsetN (zgd (V (300 + i)) (V (400 + i)) (V (200 + i) 3)) 8))) from funext fun i => by rw [h.r (r := 200 + i) (by omega) (by omega), h.r (r := 300 + i) (by omega) (by omega), h.r (r := 400 + i) (by omega) (by omega)], show (fun i => nI (zpop 9 (zsetN (zst (V2 (300 + i)) (V2 (400 + i)) (V2 (200 + i) 3)) 8))) = (fun i => nI (zpop 9 (zsetN (zst (V (300 + i)) (V (400 + i)) (V (200 + i) 3)) 8))) from funext fun i => by rw [h.r (r := 200 + i) (by omega) (by omega), h.r (r := 300 + i) (by omega) (by omega), h.r (r := 400 + i) (by omega) (by omega)]]
theorem mKeA_k (h : zKp msc V V2) {k : Nat} : mKeA V2 ns k = mKeA V ns k := by
  unfold mKeA
  rw [h.r (r := 100 + k) (by omega) (by omega), show (fun i => decide (V2 (300 + i) k ≠ -1)) = (fun i => decide (V (300 + i) k ≠ -1)) from funext fun i => by rw [h.r (r := 300 + i) (by omega) (by omega)], show (fun i => zst (V2 (300 + i)) (V2 (400 + i)) (V2 (200 + i) 3) k) = (fun i => zst (V (300 + i)) (V (400 + i)) (V (200 + i) 3) k) from funext fun i => by rw [h.r (r := 200 + i) (by omega) (by omega), h.r (r := 300 + i) (by omega) (by omega), h.r (r := 400 + i) (by omega) (by omega)]]
theorem mSeA_k (h : zKp msc V V2) : mSeA V2 nk si t = mSeA V nk si t := by
  unfold mSeA
  rw [h.r (r := 200 + si) (by omega) (by omega), h.r (r := 300 + si) (by omega) (by omega), h.r (r := 400 + si) (by omega) (by omega), h.f1 1]
theorem qSm_k (h : zKp msc V V2) {k : Nat} {w : Int32} : qSm V2 si k w = qSm V si k w := by
  unfold qSm
  rw [h.r (r := 300 + si) (by omega) (by omega), h.r (r := 400 + si) (by omega) (by omega), h.mg]
theorem mFw_k (h : zKp msc V V2) : mFw V2 nk si = mFw V nk si := by
  have ec : fmc V2 nk si = fmc V nk si := funext fun s => by
    unfold fmc
    rw [h.r (r := 200 + si) (by omega) (by omega), h.r (r := 300 + si) (by omega) (by omega), h.r (r := 400 + si) (by omega) (by omega), h.f1 0]
  have el : fml V2 nk = fml V nk := funext fun s => funext fun b => by
    unfold fml
    rw [h.f1 1]
  unfold mFw
  rw [ec, el]
theorem mLo_k (h : zKp msc V V2) : mLo V2 nk si = mLo V nk si := by
  unfold mLo
  rw [h.r (r := 200 + si) (by omega) (by omega), h.r (r := 300 + si) (by omega) (by omega), h.r (r := 400 + si) (by omega) (by omega), h.f1 2]
theorem rSnd_k (h : zKp msc V V2) : rSnd V2 = rSnd V := funext fun i => by
  unfold rSnd ocW
  rw [h.r (r := 200 + i) (by omega) (by omega), h.r (r := 300 + i) (by omega) (by omega), h.r (r := 400 + i) (by omega) (by omega), h.r (r := 7) (by decide) (by decide)]
theorem rdOk.p (h : zKp msc V V2) (hr : rdOk V nk ns) : rdOk V2 nk ns := by
  refine ⟨fun si hsi k hk => ?_, fun k hk => ?_⟩
  · rw [h.r (r := 200 + si) (by omega) (by omega), h.r (r := 300 + si) (by omega) (by omega), h.r (r := 400 + si) (by omega) (by omega)]
    exact hr.1 si hsi k hk
  · rw [h.r (r := 100 + k) (by omega) (by omega)]
    exact hr.2 k hk
end RGK

set_option maxHeartbeats 4000000 in
set_option maxRecDepth 100000 in
theorem m_Mo_digestE {g0 : State} {d : zD} {l : Launch} {a0 : Array Value} (hs0 : zS0 d a0 g0) (hst : l.stackTraces = false) {G : zG} {B : Nat → Nat} {V : Nat → Nat → Int32} {nk ns ne ec : Nat} (hM : zM d B V nk ns ne ec G) {iv : Nat → Nat} (hok : mOk V nk ns iv) (hrd : rdOk V nk ns) (hfz : ∀ si, si < ns → ∃ f, f < 4 ∧ V (200 + si) 4 = nI f) : zMet g0 d l y_Mo_digest c_Mo_digest 6 ((Option.some Jvm.ClassFile.FieldType.long)) 22 140 1172 [.ref (B 0)] (G) (mAql d B nk ns ne ec V G) (zNo) := by
  have hnk : nk ≤ 8 := hM.2.1
  have hns : ns ≤ 6 := hM.2.2.1
  have hne : ne ≤ 64 := hM.2.2.2.1
  have hp2 : 2 ^ nk ≤ 256 := Nat.pow_le_pow_right (n := 2) (by decide) hnk
  refine z_entry hs0 hst (by decide) (Nat.le_of_ble_eq_true rfl) (fun p e s m args below meth c => ?_)
  refine z_aload_n 0 d_Mo_digest_0 rfl rfl ?_
  refine z_iconst (v := 0) d_Mo_digest_1 (by decide) ?_
  refine z_put zc_Mo 0 (by decide) qF_Mo_36 hM.mo rfl rfl rfl (Nat.le_of_ble_eq_true rfl) d_Mo_digest_2 ?_
  obtain ⟨V1, hM1, hK1, hF1, hT1⟩ := hM.putT 0
  have hok1 := hK1.ok hok
  have hrd1 := rdOk.k hK1 hns hrd
  refine z_ldc2 qXl_Mo_267 d_Mo_digest_5 ?_
  refine z_lstore_n (L' := [(1, _), (0, _)]) d_Mo_digest_8 rfl (by decide) rfl ?_
  refine z_iconst (v := (nI 0)) d_Mo_digest_9 (by decide) ?_
  refine z_istore_n (L' := [(3, _), (1, _), (0, _)]) d_Mo_digest_10 rfl (by decide) rfl ?_
  have key_11 : ∀ (n : Nat) (w : Nat) (G2 : zG) (V2 : Nat → Nat → Int32), 12 - w < n → (w ≤ 12) → (zM d B V2 nk ns ne ec G2) → (zKp msc V1 V2) → (mFr B nk ns ne G G2) → Z g0 d y_Mo_digest c_Mo_digest 6 ((Option.some Jvm.ClassFile.FieldType.long)) [] p l e (zR 22 140 1172) s m args below meth c (vx_MQ below (zQc g0 d (mAql d B nk ns ne ec V G)) (zXc g0 d (zNo)) args s 140 1172 (zA g0)) w (12 * w) (G2) [(3, .int (nI w)), (1, .long (zdg 7507 (fun w => (mBkA V1 nk ns ne w).toInt64) w)), (0, .ref (B 0))] [] 11 := by
    intro n
    induction n with
    | zero => intro w G2 V2 h0; exact absurd h0 (Nat.not_lt_zero _)
    | succ n ih_11 =>
      intro w G2 V2 hm_11 hw hM2 hK2 hF2
      refine z_iload_n 0 d_Mo_digest_11 rfl rfl ?_
      refine z_bipush (v := (nI 11)) d_Mo_digest_12 (by decide) ?_
      refine z_icmp_gt 36 d_Mo_digest_14 (by decide) (fun c_14 => ?_) (fun c_14 => ?_)
      · skip
        obtain rfl : w = 12 := by
          have := (nI_ltI (a := 11) (b := w) (by decide) (by omega)).mp c_14
          omega
        refine z_iconst (v := (nI 0)) d_Mo_digest_36 (by decide) ?_
        refine z_istore_n (L' := [(3, _), (1, _), (0, _)]) d_Mo_digest_37 rfl (by decide) rfl ?_
        have key_38 : ∀ (n : Nat) (i : Nat) (G2 : zG) (V2 : Nat → Nat → Int32), nk - i < n → (i ≤ nk) → (zM d B V2 nk ns ne ec G2) → (zKp msc V1 V2) → (mFr B nk ns ne G G2) → Z g0 d y_Mo_digest c_Mo_digest 6 ((Option.some Jvm.ClassFile.FieldType.long)) [] p l e (zR 22 140 1172) s m args below meth c (vx_MQ below (zQc g0 d (mAql d B nk ns ne ec V G)) (zXc g0 d (zNo)) args s 140 1172 (zA g0)) (12 + 7 * i) (144 + 49 * i) (G2) [(3, .int (nI i)), (1, .long (zdk (zdg 7507 (fun w => (mBkA V1 nk ns ne w).toInt64) 12) (fun k w => (mKeA V1 ns k w).toInt64) 7 i)), (0, .ref (B 0))] [] 38 := by
          intro n
          induction n with
          | zero => intro i G2 V2 h0; exact absurd h0 (Nat.not_lt_zero _)
          | succ n ih_38 =>
            intro i G2 V2 hm_38 hi hM2 hK2 hF2
            refine z_iload_n 0 d_Mo_digest_38 rfl rfl ?_
            refine z_aload_n 2 d_Mo_digest_39 rfl rfl ?_
            refine z_get zc_Mo 6 (by decide) qF_Mo_16 hM2.mo rfl d_Mo_digest_40 ?_
            refine z_callF0 (m_AL_size hs0 hst hM2.kl) ym_AL_size zF_AL_size qM_Mo_94 zc_AL hM2.kl d_Mo_digest_43 rfl (Nat.le_of_ble_eq_true rfl) ⟨by show _ ≤ 140; omega, by show _ ≤ 1172; omega⟩ ⟨Nat.le_of_ble_eq_true rfl, Nat.le_of_ble_eq_true rfl⟩ ?_
            refine z_icmp_ge 88 d_Mo_digest_48 (by decide) (fun c_48 => ?_) (fun c_48 => ?_)
            · skip
              obtain rfl : nk = i := by
                have := (nI_leI (a := nk) (b := i) (by omega) (by omega)).mp c_48
                omega
              refine z_iconst (v := (nI 0)) d_Mo_digest_88 (by decide) ?_
              refine z_istore_n (L' := [(3, _), (1, _), (0, _)]) d_Mo_digest_89 rfl (by decide) rfl ?_
              have key_90 : ∀ (n : Nat) (i : Nat) (G2 : zG) (V2 : Nat → Nat → Int32), ns - i < n → (i ≤ ns) → (zM d B V2 nk ns ne ec G2) → (zKp msc V1 V2) → (mFr B nk ns ne G G2) → Z g0 d y_Mo_digest c_Mo_digest 6 ((Option.some Jvm.ClassFile.FieldType.long)) [] p l e (zR 22 140 1172) s m args below meth c (vx_MQ below (zQc g0 d (mAql d B nk ns ne ec V G)) (zXc g0 d (zNo)) args s 140 1172 (zA g0)) (68 + 10 * i) (536 + 90 * i) (G2) [(3, .int (nI i)), (1, .long (dgT (fun s => rSeD V1 nk s) (zdk (zdg 7507 (fun w => (mBkA V1 nk ns ne w).toInt64) 12) (fun k w => (mKeA V1 ns k w).toInt64) 7 nk) i)), (0, .ref (B 0))] [] 90 := by
                intro n
                induction n with
                | zero => intro i G2 V2 h0; exact absurd h0 (Nat.not_lt_zero _)
                | succ n ih_90 =>
                  intro i G2 V2 hm_90 hi hM2 hK2 hF2
                  refine z_iload_n 0 d_Mo_digest_90 rfl rfl ?_
                  refine z_aload_n 2 d_Mo_digest_91 rfl rfl ?_
                  refine z_get zc_Mo 7 (by decide) qF_Mo_20 hM2.mo rfl d_Mo_digest_92 ?_
                  refine z_callF0 (m_AL_size hs0 hst hM2.sl) ym_AL_size zF_AL_size qM_Mo_94 zc_AL hM2.sl d_Mo_digest_95 rfl (Nat.le_of_ble_eq_true rfl) ⟨by show _ ≤ 140; omega, by show _ ≤ 1172; omega⟩ ⟨Nat.le_of_ble_eq_true rfl, Nat.le_of_ble_eq_true rfl⟩ ?_
                  refine z_icmp_ge 268 d_Mo_digest_100 (by decide) (fun c_100 => ?_) (fun c_100 => ?_)
                  · skip
                    obtain rfl : ns = i := by
                      have := (nI_leI (a := ns) (b := i) (by omega) (by omega)).mp c_100
                      omega
                    refine z_iconst (v := (nI 0)) d_Mo_digest_268 (by decide) ?_
                    refine z_istore_n (L' := [(3, _), (1, _), (0, _)]) d_Mo_digest_269 rfl (by decide) rfl ?_
                    have key_270 : ∀ (n : Nat) (j : Nat), ne - j < n → (j ≤ ne) → Z g0 d y_Mo_digest c_Mo_digest 6 ((Option.some Jvm.ClassFile.FieldType.long)) [] p l e (zR 22 140 1172) s m args below meth c (vx_MQ below (zQc g0 d (mAql d B nk ns ne ec V G)) (zXc g0 d (zNo)) args s 140 1172 (zA g0)) 128 1076 (G2) [(3, .int (nI j)), (1, .long (zdg (dgT (fun s => rSeD V1 nk s) (zdk (zdg 7507 (fun w => (mBkA V1 nk ns ne w).toInt64) 12) (fun k w => (mKeA V1 ns k w).toInt64) 7 nk) ns) (fun e => (V1 (500 + e) 3).toInt64) j)), (0, .ref (B 0))] [] 270 := by
                      intro n
                      induction n with
                      | zero => intro j h0; exact absurd h0 (Nat.not_lt_zero _)
                      | succ n ih_270 =>
                        intro j hm_270 hj
                        refine z_iload_n 0 d_Mo_digest_270 rfl rfl ?_
                        refine z_aload_n 2 d_Mo_digest_271 rfl rfl ?_
                        refine z_get zc_Mo 8 (by decide) qF_Mo_23 hM2.mo rfl d_Mo_digest_272 ?_
                        refine z_callF0 (m_AL_size hs0 hst hM2.el) ym_AL_size zF_AL_size qM_Mo_94 zc_AL hM2.el d_Mo_digest_275 rfl (Nat.le_of_ble_eq_true rfl) ⟨by show _ ≤ 140; omega, by show _ ≤ 1172; omega⟩ ⟨Nat.le_of_ble_eq_true rfl, Nat.le_of_ble_eq_true rfl⟩ ?_
                        refine z_icmp_ge 312 d_Mo_digest_280 (by decide) (fun c_280 => ?_) (fun c_280 => ?_)
                        · skip
                          obtain rfl : ne = j := by
                            have := (nI_leI (a := ne) (b := j) (by omega) (by omega)).mp c_280
                            omega
                          refine z_lload_n 1 d_Mo_digest_312 rfl rfl ?_
                          refine z_ldc2 qXl_Mo_269 d_Mo_digest_313 ?_
                          refine z_lmul d_Mo_digest_316 ?_
                          refine z_aload_n 2 d_Mo_digest_317 rfl rfl ?_
                          refine z_callVp1 ((m_Mo_isSoundNowE hs0 hst hM2 (by rw [hK2.r (r := 7) (by decide) (by decide)]; exact hok1.1) (rdOk.p hK2 hrd1))) ym_Mo_isSoundNow qM_Mo_263 qI_Mo_isSoundNow qV_Mo_Mo_isSoundNow zc_Mo hM2.mo d_Mo_digest_318 rfl (Nat.le_of_ble_eq_true rfl) ⟨by show _ ≤ 140; omega, by show _ ≤ 1172; omega⟩ ⟨Nat.le_of_ble_eq_true rfl, Nat.le_of_ble_eq_true rfl⟩ (fun r_318 G_318 hp_318 => ?_)
                          obtain ⟨hr_318, hM7, hF7⟩ := hp_318
                          rw [rSnd_k hK2] at hr_318
                          obtain rfl : r_318 = _ := hr_318
                          replace hF7 := hF2.tr hF7
                          refine z_if_eq 328 d_Mo_digest_321 (by decide) (fun c_321 => ?_) (fun c_321 => ?_)
                          · skip
                            refine z_iconst (v := 0) d_Mo_digest_328 (by decide) ?_
                            refine z_i2l d_Mo_digest_329 rfl ?_
                            refine z_ladd d_Mo_digest_330 ?_
                            exact z_lret rfl (⟨V1, V2, by unfold rAl dgE; first | exact congrArg (fun q => some (Value.long q)) (zb_dg c_321) | exact congrArg (fun q => some (Value.long q)) (zb_dg0 c_321), hK1, hM7, hK1.tr hK2.m.n, hF7⟩) (by first | decide | omega) (by first | decide | omega) d_Mo_digest_331
                          · skip
                            refine z_iconst (v := 1) d_Mo_digest_324 (by decide) ?_
                            refine z_goto 329 d_Mo_digest_325 (by decide) ?_
                            refine z_i2l d_Mo_digest_329 rfl ?_
                            refine z_ladd d_Mo_digest_330 ?_
                            exact z_lret rfl (⟨V1, V2, by unfold rAl dgE; first | exact congrArg (fun q => some (Value.long q)) (zb_dg c_321) | exact congrArg (fun q => some (Value.long q)) (zb_dg0 c_321), hK1, hM7, hK1.tr hK2.m.n, hF7⟩) (by first | decide | omega) (by first | decide | omega) d_Mo_digest_331
                        · skip
                          have hei : j < ne := Nat.lt_of_not_le fun q => c_280 (nI_le q (by omega))
                          refine z_lload_n 1 d_Mo_digest_283 rfl rfl ?_
                          refine z_ldc2 qXl_Mo_269 d_Mo_digest_284 ?_
                          refine z_lmul d_Mo_digest_287 ?_
                          refine z_aload_n 2 d_Mo_digest_288 rfl rfl ?_
                          refine z_get zc_Mo 8 (by decide) qF_Mo_23 hM2.mo rfl d_Mo_digest_289 ?_
                          refine z_iload_n 0 d_Mo_digest_292 rfl rfl ?_
                          refine z_callF0 (m_AL_get hs0 hst (hM2.eA hei) hei (if_pos hei)) ym_AL_get zF_AL_get qM_Mo_51 zc_AL (hM2.eA hei).1 d_Mo_digest_293 rfl (Nat.le_of_ble_eq_true rfl) ⟨by show _ ≤ 140; omega, by show _ ≤ 1172; omega⟩ ⟨Nat.le_of_ble_eq_true rfl, Nat.le_of_ble_eq_true rfl⟩ ?_
                          refine z_castI qK_Mo_217 (hM2.en hei) d_Mo_digest_298 ?_
                          refine z_iconst (v := (nI 3)) d_Mo_digest_301 (by decide) ?_
                          refine z_ialdN (hM2.en hei) (show 3 < 4 by decide) (by decide) d_Mo_digest_302 ?_
                          refine z_topv (v := V1 (500 + j) 3) (by rw [hK2.r (r := 500 + j) (by omega) (by omega)]) ?_
                          refine z_i2l d_Mo_digest_303 rfl ?_
                          refine z_ladd d_Mo_digest_304 ?_
                          refine z_lstore_n (L' := [(1, _), (3, _), (0, _)]) d_Mo_digest_305 rfl (by decide) rfl ?_
                          refine z_iinc (v := nI (j + 1)) (L' := [(3, _), (1, _), (0, _)]) 1 d_Mo_digest_306 rfl (nI_1 j) (by decide) rfl ?_
                          refine z_goto 270 d_Mo_digest_309 (by decide) ?_
                          exact ih_270 (j + 1) (by omega) (by omega)
                    refine z_widen (k := 128) (n := 1076) (by omega) (by omega) ?_
                    exact key_270 (ne + 1) 0 (by omega) (by omega)
                  · skip
                    have hi6 : i < ns := Nat.lt_of_not_le fun q => c_100 (nI_le q (by omega))
                    obtain ⟨t, ht1, ht4, ht⟩ := hM1.tn hi6
                    have etn : (V1 (200 + i) 0).toNatClampNeg = t := by rw [ht, nI_clamp (by omega)]
                    obtain ⟨f9, hf9, ef9⟩ := hfz i hi6
                    rw [← hK1.row (r := 200 + i) (by omega) (by omega) (by omega)] at ef9
                    refine z_iconst (v := (nI 0)) d_Mo_digest_103 (by decide) ?_
                    refine z_istore (L' := [(4, _), (3, _), (1, _), (0, _)]) d_Mo_digest_104 (by decide) rfl ?_
                    have key_106 : ∀ (n : Nat) (w : Nat) (G4 : zG) (V4 : Nat → Nat → Int32), 9 - w < n → (w ≤ 9) → (zM d B V4 nk ns ne ec G4) → (zKp msc V1 V4) → (mFr B nk ns ne G G4) → Z g0 d y_Mo_digest c_Mo_digest 6 ((Option.some Jvm.ClassFile.FieldType.long)) [] p l e (zR 22 140 1172) s m args below meth c (vx_MQ below (zQc g0 d (mAql d B nk ns ne ec V G)) (zXc g0 d (zNo)) args s 140 1172 (zA g0)) (68 + 10 * i + w) (536 + 90 * i + 9 * w) (G4) [(4, .int (nI w)), (3, .int (nI i)), (1, .long (zdg (dgT (fun s => rSeD V1 nk s) (zdk (zdg 7507 (fun w => (mBkA V1 nk ns ne w).toInt64) 12) (fun k w => (mKeA V1 ns k w).toInt64) 7 nk) i) (fun w => (mSeA V1 nk i (V1 (200 + i) 0).toNatClampNeg w).toInt64) w)), (0, .ref (B 0))] [] 106 := by
                      intro n
                      induction n with
                      | zero => intro w G4 V4 h0; exact absurd h0 (Nat.not_lt_zero _)
                      | succ n ih_106 =>
                        intro w G4 V4 hm_106 hw hM4 hK4 hF4
                        refine z_iload 0 d_Mo_digest_106 rfl ?_
                        refine z_bipush (v := (nI 8)) d_Mo_digest_108 (by decide) ?_
                        refine z_icmp_gt 134 d_Mo_digest_110 (by decide) (fun c_110 => ?_) (fun c_110 => ?_)
                        · skip
                          obtain rfl : w = 9 := by
                            have := (nI_ltI (a := 8) (b := w) (by decide) (by omega)).mp c_110
                            omega
                          refine z_iconst (v := (nI 0)) d_Mo_digest_134 (by decide) ?_
                          refine z_istore (L' := [(4, _), (3, _), (1, _), (0, _)]) d_Mo_digest_135 (by decide) rfl ?_
                          have key_137 : ∀ (n : Nat) (j : Nat), nk - j < n → (j ≤ nk) → Z g0 d y_Mo_digest c_Mo_digest 6 ((Option.some Jvm.ClassFile.FieldType.long)) [] p l e (zR 22 140 1172) s m args below meth c (vx_MQ below (zQc g0 d (mAql d B nk ns ne ec V G)) (zXc g0 d (zNo)) args s 140 1172 (zA g0)) (68 + 10 * i + 9) (536 + 90 * i + 81) (G4) [(4, .int (nI j)), (3, .int (nI i)), (1, .long (zdk (zdg (dgT (fun s => rSeD V1 nk s) (zdk (zdg 7507 (fun w => (mBkA V1 nk ns ne w).toInt64) 12) (fun k w => (mKeA V1 ns k w).toInt64) 7 nk) i) (fun w => (mSeA V1 nk i (V1 (200 + i) 0).toNatClampNeg w).toInt64) 9) (fun k w => (qSm V1 i k (nI w)).toInt64) 3 j)), (0, .ref (B 0))] [] 137 := by
                            intro n
                            induction n with
                            | zero => intro j h0; exact absurd h0 (Nat.not_lt_zero _)
                            | succ n ih_137 =>
                              intro j hm_137 hj
                              refine z_iload 0 d_Mo_digest_137 rfl ?_
                              refine z_aload_n 3 d_Mo_digest_139 rfl rfl ?_
                              refine z_get zc_Mo 6 (by decide) qF_Mo_16 hM4.mo rfl d_Mo_digest_140 ?_
                              refine z_callF0 (m_AL_size hs0 hst hM4.kl) ym_AL_size zF_AL_size qM_Mo_94 zc_AL hM4.kl d_Mo_digest_143 rfl (Nat.le_of_ble_eq_true rfl) ⟨by show _ ≤ 140; omega, by show _ ≤ 1172; omega⟩ ⟨Nat.le_of_ble_eq_true rfl, Nat.le_of_ble_eq_true rfl⟩ ?_
                              refine z_icmp_ge 189 d_Mo_digest_148 (by decide) (fun c_148 => ?_) (fun c_148 => ?_)
                              · skip
                                obtain rfl : nk = j := by
                                  have := (nI_leI (a := nk) (b := j) (by omega) (by omega)).mp c_148
                                  omega
                                refine z_iconst (v := (nI 0)) d_Mo_digest_189 (by decide) ?_
                                refine z_istore (L' := [(4, _), (3, _), (1, _), (0, _)]) d_Mo_digest_190 (by decide) rfl ?_
                                have key_192 : ∀ (n : Nat) (w : Nat) (G6 : zG) (V6 : Nat → Nat → Int32), 6 - w < n → (w ≤ 6) → (zM d B V6 nk ns ne ec G6) → (zKp msc V1 V6) → (mFr B nk ns ne G G6) → Z g0 d y_Mo_digest c_Mo_digest 6 ((Option.some Jvm.ClassFile.FieldType.long)) [] p l e (zR 22 140 1172) s m args below meth c (vx_MQ below (zQc g0 d (mAql d B nk ns ne ec V G)) (zXc g0 d (zNo)) args s 140 1172 (zA g0)) (68 + 10 * i + 9) (536 + 90 * i + 81) (G6) [(4, .int (nI w)), (3, .int (nI i)), (1, .long (zdg (zdk (zdg (dgT (fun s => rSeD V1 nk s) (zdk (zdg 7507 (fun w => (mBkA V1 nk ns ne w).toInt64) 12) (fun k w => (mKeA V1 ns k w).toInt64) 7 nk) i) (fun w => (mSeA V1 nk i (V1 (200 + i) 0).toNatClampNeg w).toInt64) 9) (fun k w => (qSm V1 i k (nI w)).toInt64) 3 nk) (fun w => (qWd V1 nk i (2 ^ nk - 1) (V1 (200 + i) 0).toNatClampNeg (nI w)).toInt64) w)), (0, .ref (B 0))] [] 192 := by
                                  intro n
                                  induction n with
                                  | zero => intro w G6 V6 h0; exact absurd h0 (Nat.not_lt_zero _)
                                  | succ n ih_192 =>
                                    intro w G6 V6 hm_192 hw hM6 hK6 hF6
                                    refine z_iload 0 d_Mo_digest_192 rfl ?_
                                    refine z_iconst (v := (nI 5)) d_Mo_digest_194 (by decide) ?_
                                    refine z_icmp_gt 232 d_Mo_digest_195 (by decide) (fun c_195 => ?_) (fun c_195 => ?_)
                                    · skip
                                      obtain rfl : w = 6 := by
                                        have := (nI_ltI (a := 5) (b := w) (by decide) (by omega)).mp c_195
                                        omega
                                      refine z_lload_n 2 d_Mo_digest_232 rfl rfl ?_
                                      refine z_ldc2 qXl_Mo_269 d_Mo_digest_233 ?_
                                      refine z_lmul d_Mo_digest_236 ?_
                                      refine z_aload_n 3 d_Mo_digest_237 rfl rfl ?_
                                      refine z_iload_n 1 d_Mo_digest_238 rfl rfl ?_
                                      refine z_callV0 ((m_Mo_fewestNowE hs0 hst hM6 hi6 (hok1.of (fun r _ h8 h9 => hK6.r h8 h9)).2.2)) ym_Mo_fewestNow qM_Mo_256 qI_Mo_fewestNow qV_Mo_Mo_fewestNow zc_Mo hM6.mo d_Mo_digest_239 rfl (Nat.le_of_ble_eq_true rfl) ⟨by show _ ≤ 140; omega, by show _ ≤ 1172; omega⟩ ⟨Nat.le_of_ble_eq_true rfl, Nat.le_of_ble_eq_true rfl⟩ ?_
                                      refine z_topv (mFw_k hK6) ?_
                                      refine z_i2l d_Mo_digest_242 rfl ?_
                                      refine z_ladd d_Mo_digest_243 ?_
                                      refine z_lstore_n (L' := [(1, _), (4, _), (3, _), (0, _)]) d_Mo_digest_244 rfl (by decide) rfl ?_
                                      refine z_lload_n 0 d_Mo_digest_245 rfl rfl ?_
                                      refine z_ldc2 qXl_Mo_269 d_Mo_digest_246 ?_
                                      refine z_lmul d_Mo_digest_249 ?_
                                      refine z_ldc2d qXd_Mo_271 d_Mo_digest_250 ?_
                                      refine z_aload_n 3 d_Mo_digest_253 rfl rfl ?_
                                      refine z_iload_n 2 d_Mo_digest_254 rfl rfl ?_
                                      refine z_callVp1 ((m_Mo_lostNowE hs0 hst hM6 hi6)) ym_Mo_lostNow qM_Mo_252 qI_Mo_lostNow qV_Mo_Mo_lostNow zc_Mo hM6.mo d_Mo_digest_255 rfl (Nat.le_of_ble_eq_true rfl) ⟨by show _ ≤ 140; omega, by show _ ≤ 1172; omega⟩ ⟨Nat.le_of_ble_eq_true rfl, Nat.le_of_ble_eq_true rfl⟩ (fun r_255 G_255 hp_255 => ?_)
                                      obtain ⟨⟨hr_255, hu9⟩, hM7, hF7⟩ := hp_255
                                      have hlo : mLo V6 nk i = mLo V1 nk i := mLo_k hK6
                                      have hu8 : zmg (mLo V1 nk i) 1400 := by rw [← hlo]; exact hu9
                                      obtain rfl : r_255 = some (.double (mLo V1 nk i)) := hr_255.trans (by rw [← hlo]; rfl)
                                      replace hF7 := hF6.tr hF7
                                      refine z_dmul d_Mo_digest_258 (zmg_k' hu8) ?_
                                      refine z_d2l d_Mo_digest_259 ?_
                                      refine z_ladd d_Mo_digest_260 ?_
                                      refine z_lstore_n (L' := [(1, _), (4, _), (3, _), (0, _)]) d_Mo_digest_261 rfl (by decide) rfl ?_
                                      refine z_iinc (v := nI (i + 1)) (L' := [(3, _), (1, _), (4, _), (0, _)]) 2 d_Mo_digest_262 rfl (nI_1 i) (by decide) rfl ?_
                                      refine z_goto 90 d_Mo_digest_265 (by decide) ?_
                                      refine z_sub (L' := [(3, _), (1, _), (0, _)]) [0, 1, 3] rfl ?_
                                      refine z_widen (k := (68 + 10 * (i + 1))) (n := (536 + 90 * (i + 1))) (by omega) (by omega) ?_
                                      exact ih_90 (i + 1) _ _ (by omega) (by omega) hM7 hK6 hF7
                                    · skip
                                      have hw6 : w ≤ 5 := Nat.le_of_not_lt fun q => c_195 ((nI_ltI (a := 5) (b := w) (by decide) (by omega)).mpr q)
                                      refine z_lload_n 2 d_Mo_digest_198 rfl rfl ?_
                                      refine z_ldc2 qXl_Mo_269 d_Mo_digest_199 ?_
                                      refine z_lmul d_Mo_digest_202 ?_
                                      refine z_aload_n 3 d_Mo_digest_203 rfl rfl ?_
                                      refine z_iload_n 1 d_Mo_digest_204 rfl rfl ?_
                                      refine z_iconst (v := 1) d_Mo_digest_205 (by decide) ?_
                                      refine z_aload_n 3 d_Mo_digest_206 rfl rfl ?_
                                      refine z_get zc_Mo 6 (by decide) qF_Mo_16 hM6.mo rfl d_Mo_digest_207 ?_
                                      refine z_callF0 (m_AL_size hs0 hst hM6.kl) ym_AL_size zF_AL_size qM_Mo_94 zc_AL hM6.kl d_Mo_digest_210 rfl (Nat.le_of_ble_eq_true rfl) ⟨by show _ ≤ 140; omega, by show _ ≤ 1172; omega⟩ ⟨Nat.le_of_ble_eq_true rfl, Nat.le_of_ble_eq_true rfl⟩ ?_
                                      refine z_ishl d_Mo_digest_215 ?_
                                      refine z_iconst (v := 1) d_Mo_digest_216 (by decide) ?_
                                      refine z_isub d_Mo_digest_217 ?_
                                      refine z_topv (v := nI (2 ^ nk - 1)) (zall_eq hnk) ?_
                                      refine z_iload 0 d_Mo_digest_218 rfl ?_
                                      refine z_callVp1 ((m_Mo_wouldNowE hs0 hst hM6 hi6 (g := 2 ^ nk - 1) (by have := Nat.pow_pos (n := nk) (show 0 < 2 by decide); omega) (nI w) (hok1.of (fun r _ h8 h9 => hK6.r h8 h9)))) ym_Mo_wouldNow qM_Mo_247 qI_Mo_wouldNow qV_Mo_Mo_wouldNow zc_Mo hM6.mo d_Mo_digest_220 rfl (Nat.le_of_ble_eq_true rfl) ⟨by show _ ≤ 140; omega, by show _ ≤ 1172; omega⟩ ⟨Nat.le_of_ble_eq_true rfl, Nat.le_of_ble_eq_true rfl⟩ (fun r_220 G_220 hp_220 => ?_)
                                      obtain ⟨⟨t7, h71, h74, et7, hr_220⟩, V7, hM7, hK7, hF7⟩ := hp_220
                                      have et8 : t7 = (V1 (200 + i) 0).toNatClampNeg := by
                                        rw [etn]
                                        exact (nI_eq (by omega) (by omega)).mp (et7.symm.trans ((congrFun (hK6.r (r := 200 + i) (by omega) (by omega)) 0).trans ht))
                                      rw [qWd_k hK6, et8] at hr_220
                                      obtain rfl : r_220 = _ := hr_220
                                      replace hF7 := hF6.tr hF7
                                      refine z_i2l d_Mo_digest_223 rfl ?_
                                      refine z_ladd d_Mo_digest_224 ?_
                                      refine z_lstore_n (L' := [(1, _), (4, _), (3, _), (0, _)]) d_Mo_digest_225 rfl (by decide) rfl ?_
                                      refine z_iinc (v := nI (w + 1)) (L' := [(4, _), (1, _), (3, _), (0, _)]) 1 d_Mo_digest_226 rfl (nI_1 w) (by decide) rfl ?_
                                      refine z_goto 192 d_Mo_digest_229 (by decide) ?_
                                      refine z_sub (L' := [(4, _), (3, _), (1, _), (0, _)]) [0, 2, 1, 3] rfl ?_
                                      exact ih_192 (w + 1) _ _ (by omega) (by omega) hM7 (hK6.tr hK7) hF7
                                exact key_192 7 0 _ _ (by omega) (by omega) hM4 hK4 hF4
                              · skip
                                have hj6 : j < nk := Nat.lt_of_not_le fun q => c_148 (nI_le q (by omega))
                                refine z_iconst (v := (nI 0)) d_Mo_digest_151 (by decide) ?_
                                refine z_istore (L' := [(5, _), (4, _), (3, _), (1, _), (0, _)]) d_Mo_digest_152 (by decide) rfl ?_
                                have key_154 : ∀ (n : Nat) (w : Nat), 3 - w < n → (w ≤ 3) → Z g0 d y_Mo_digest c_Mo_digest 6 ((Option.some Jvm.ClassFile.FieldType.long)) [] p l e (zR 22 140 1172) s m args below meth c (vx_MQ below (zQc g0 d (mAql d B nk ns ne ec V G)) (zXc g0 d (zNo)) args s 140 1172 (zA g0)) (68 + 10 * i + 9) (536 + 90 * i + 81) (G4) [(5, .int (nI w)), (4, .int (nI j)), (3, .int (nI i)), (1, .long (zdg (zdk (zdg (dgT (fun s => rSeD V1 nk s) (zdk (zdg 7507 (fun w => (mBkA V1 nk ns ne w).toInt64) 12) (fun k w => (mKeA V1 ns k w).toInt64) 7 nk) i) (fun w => (mSeA V1 nk i (V1 (200 + i) 0).toNatClampNeg w).toInt64) 9) (fun k w => (qSm V1 i k (nI w)).toInt64) 3 j) ((fun k w => (qSm V1 i k (nI w)).toInt64) j) w)), (0, .ref (B 0))] [] 154 := by
                                  intro n
                                  induction n with
                                  | zero => intro w h0; exact absurd h0 (Nat.not_lt_zero _)
                                  | succ n ih_154 =>
                                    intro w hm_154 hw
                                    refine z_iload 0 d_Mo_digest_154 rfl ?_
                                    refine z_iconst (v := (nI 2)) d_Mo_digest_156 (by decide) ?_
                                    refine z_icmp_gt 183 d_Mo_digest_157 (by decide) (fun c_157 => ?_) (fun c_157 => ?_)
                                    · skip
                                      obtain rfl : w = 3 := by
                                        have := (nI_ltI (a := 2) (b := w) (by decide) (by omega)).mp c_157
                                        omega
                                      refine z_iinc (v := nI (j + 1)) (L' := [(4, _), (5, _), (3, _), (1, _), (0, _)]) 1 d_Mo_digest_183 rfl (nI_1 j) (by decide) rfl ?_
                                      refine z_goto 137 d_Mo_digest_186 (by decide) ?_
                                      refine z_sub (L' := [(4, _), (3, _), (1, _), (0, _)]) [0, 2, 3, 4] rfl ?_
                                      exact ih_137 (j + 1) (by omega) (by omega)
                                    · skip
                                      have hw6 : w ≤ 2 := Nat.le_of_not_lt fun q => c_157 ((nI_ltI (a := 2) (b := w) (by decide) (by omega)).mpr q)
                                      refine z_lload_n 3 d_Mo_digest_160 rfl rfl ?_
                                      refine z_ldc2 qXl_Mo_269 d_Mo_digest_161 ?_
                                      refine z_lmul d_Mo_digest_164 ?_
                                      refine z_aload_n 4 d_Mo_digest_165 rfl rfl ?_
                                      refine z_iload_n 2 d_Mo_digest_166 rfl rfl ?_
                                      refine z_iload 1 d_Mo_digest_167 rfl ?_
                                      refine z_iload 0 d_Mo_digest_169 rfl ?_
                                      refine z_callV0 ((m_Mo_shareNowE hs0 hst hM4 hi6 hj6 (nI w))) ym_Mo_shareNow qM_Mo_213 qI_Mo_shareNow qV_Mo_Mo_shareNow zc_Mo hM4.mo d_Mo_digest_171 rfl (Nat.le_of_ble_eq_true rfl) ⟨by show _ ≤ 140; omega, by show _ ≤ 1172; omega⟩ ⟨Nat.le_of_ble_eq_true rfl, Nat.le_of_ble_eq_true rfl⟩ ?_
                                      refine z_topv (qSm_k hK4) ?_
                                      refine z_i2l d_Mo_digest_174 rfl ?_
                                      refine z_ladd d_Mo_digest_175 ?_
                                      refine z_lstore_n (L' := [(1, _), (5, _), (4, _), (3, _), (0, _)]) d_Mo_digest_176 rfl (by decide) rfl ?_
                                      refine z_iinc (v := nI (w + 1)) (L' := [(5, _), (1, _), (4, _), (3, _), (0, _)]) 1 d_Mo_digest_177 rfl (nI_1 w) (by decide) rfl ?_
                                      refine z_goto 154 d_Mo_digest_180 (by decide) ?_
                                      refine z_sub (L' := [(5, _), (4, _), (3, _), (1, _), (0, _)]) [0, 2, 3, 1, 4] rfl ?_
                                      exact ih_154 (w + 1) (by omega) (by omega)
                                exact key_154 4 0 (by omega) (by omega)
                          refine z_widen (k := 68 + 10 * i + 9) (n := 536 + 90 * i + 81) (by omega) (by omega) ?_
                          exact key_137 (nk + 1) 0 (by omega) (by omega)
                        · skip
                          have hw6 : w ≤ 8 := Nat.le_of_not_lt fun q => c_110 ((nI_ltI (a := 8) (b := w) (by decide) (by omega)).mpr q)
                          refine z_lload_n 2 d_Mo_digest_113 rfl rfl ?_
                          refine z_ldc2 qXl_Mo_269 d_Mo_digest_114 ?_
                          refine z_lmul d_Mo_digest_117 ?_
                          refine z_aload_n 3 d_Mo_digest_118 rfl rfl ?_
                          refine z_iload_n 1 d_Mo_digest_119 rfl rfl ?_
                          refine z_iload 0 d_Mo_digest_120 rfl ?_
                          refine z_callVp1 ((m_Mo_secretNowE hs0 hst hM4 hi6 (show w < 9 by omega) (t := t) (by rw [hK4.r (r := 200 + i) (by omega) (by omega)]; exact ht) ht4 (f9 := f9) (by omega) (by rw [hK4.r (r := 200 + i) (by omega) (by omega)]; exact ef9))) ym_Mo_secretNow qM_Mo_210 qI_Mo_secretNow qV_Mo_Mo_secretNow zc_Mo hM4.mo d_Mo_digest_122 rfl (Nat.le_of_ble_eq_true rfl) ⟨by show _ ≤ 140; omega, by show _ ≤ 1172; omega⟩ ⟨Nat.le_of_ble_eq_true rfl, Nat.le_of_ble_eq_true rfl⟩ (fun r_122 G_122 hp_122 => ?_)
                          obtain ⟨hr_122, hM5, hF5⟩ := hp_122
                          rw [mSeA_k hK4, ← etn] at hr_122
                          obtain rfl : r_122 = _ := hr_122
                          replace hF5 := hF4.tr hF5
                          refine z_i2l d_Mo_digest_125 rfl ?_
                          refine z_ladd d_Mo_digest_126 ?_
                          refine z_lstore_n (L' := [(1, _), (4, _), (3, _), (0, _)]) d_Mo_digest_127 rfl (by decide) rfl ?_
                          refine z_iinc (v := nI (w + 1)) (L' := [(4, _), (1, _), (3, _), (0, _)]) 1 d_Mo_digest_128 rfl (nI_1 w) (by decide) rfl ?_
                          refine z_goto 106 d_Mo_digest_131 (by decide) ?_
                          refine z_sub (L' := [(4, _), (3, _), (1, _), (0, _)]) [0, 2, 1, 3] rfl ?_
                          refine z_widen (k := (68 + 10 * i + (w + 1))) (n := (536 + 90 * i + 9 * (w + 1))) (by omega) (by omega) ?_
                          exact ih_106 (w + 1) _ _ (by omega) (by omega) hM5 hK4 hF5
                    refine z_widen (k := 68 + 10 * i + 0) (n := 536 + 90 * i + 9 * 0) (by omega) (by omega) ?_
                    exact key_106 (9 + 1) 0 _ _ (by omega) (by omega) hM2 hK2 hF2
              refine z_widen (k := 68 + 10 * 0) (n := 536 + 90 * 0) (by omega) (by omega) ?_
              exact key_90 (ns + 1) 0 _ _ (by omega) (by omega) hM2 hK2 hF2
            · skip
              have hi6 : i < nk := Nat.lt_of_not_le fun q => c_48 (nI_le q (by omega))
              refine z_iconst (v := (nI 0)) d_Mo_digest_51 (by decide) ?_
              refine z_istore (L' := [(4, _), (3, _), (1, _), (0, _)]) d_Mo_digest_52 (by decide) rfl ?_
              have key_54 : ∀ (n : Nat) (w : Nat) (G4 : zG) (V4 : Nat → Nat → Int32), 7 - w < n → (w ≤ 7) → (zM d B V4 nk ns ne ec G4) → (zKp msc V1 V4) → (mFr B nk ns ne G G4) → Z g0 d y_Mo_digest c_Mo_digest 6 ((Option.some Jvm.ClassFile.FieldType.long)) [] p l e (zR 22 140 1172) s m args below meth c (vx_MQ below (zQc g0 d (mAql d B nk ns ne ec V G)) (zXc g0 d (zNo)) args s 140 1172 (zA g0)) (12 + 7 * i + w) (144 + 49 * i + 7 * w) (G4) [(4, .int (nI w)), (3, .int (nI i)), (1, .long (zdg (zdk (zdg 7507 (fun w => (mBkA V1 nk ns ne w).toInt64) 12) (fun k w => (mKeA V1 ns k w).toInt64) 7 i) ((fun k w => (mKeA V1 ns k w).toInt64) i) w)), (0, .ref (B 0))] [] 54 := by
                intro n
                induction n with
                | zero => intro w G4 V4 h0; exact absurd h0 (Nat.not_lt_zero _)
                | succ n ih_54 =>
                  intro w G4 V4 hm_54 hw hM4 hK4 hF4
                  refine z_iload 0 d_Mo_digest_54 rfl ?_
                  refine z_bipush (v := (nI 6)) d_Mo_digest_56 (by decide) ?_
                  refine z_icmp_gt 82 d_Mo_digest_58 (by decide) (fun c_58 => ?_) (fun c_58 => ?_)
                  · skip
                    obtain rfl : w = 7 := by
                      have := (nI_ltI (a := 6) (b := w) (by decide) (by omega)).mp c_58
                      omega
                    refine z_iinc (v := nI (i + 1)) (L' := [(3, _), (4, _), (1, _), (0, _)]) 1 d_Mo_digest_82 rfl (nI_1 i) (by decide) rfl ?_
                    refine z_goto 38 d_Mo_digest_85 (by decide) ?_
                    refine z_sub (L' := [(3, _), (1, _), (0, _)]) [0, 2, 3] rfl ?_
                    refine z_widen (k := (12 + 7 * (i + 1))) (n := (144 + 49 * (i + 1))) (by omega) (by omega) ?_
                    exact ih_38 (i + 1) _ _ (by omega) (by omega) hM4 hK4 hF4
                  · skip
                    have hw6 : w ≤ 6 := Nat.le_of_not_lt fun q => c_58 ((nI_ltI (a := 6) (b := w) (by decide) (by omega)).mpr q)
                    refine z_lload_n 2 d_Mo_digest_61 rfl rfl ?_
                    refine z_ldc2 qXl_Mo_269 d_Mo_digest_62 ?_
                    refine z_lmul d_Mo_digest_65 ?_
                    refine z_aload_n 3 d_Mo_digest_66 rfl rfl ?_
                    refine z_iload_n 1 d_Mo_digest_67 rfl rfl ?_
                    refine z_iload 0 d_Mo_digest_68 rfl ?_
                    refine z_callVp1 ((m_Mo_keeperNowE hs0 hst hM4 hi6 (show w < 7 by omega))) ym_Mo_keeperNow qM_Mo_199 qI_Mo_keeperNow qV_Mo_Mo_keeperNow zc_Mo hM4.mo d_Mo_digest_70 rfl (Nat.le_of_ble_eq_true rfl) ⟨by show _ ≤ 140; omega, by show _ ≤ 1172; omega⟩ ⟨Nat.le_of_ble_eq_true rfl, Nat.le_of_ble_eq_true rfl⟩ (fun r_70 G_70 hp_70 => ?_)
                    obtain ⟨hr_70, hM5, hF5⟩ := hp_70
                    rw [mKeA_k hK4] at hr_70
                    obtain rfl : r_70 = _ := hr_70
                    replace hF5 := hF4.tr hF5
                    refine z_i2l d_Mo_digest_73 rfl ?_
                    refine z_ladd d_Mo_digest_74 ?_
                    refine z_lstore_n (L' := [(1, _), (4, _), (3, _), (0, _)]) d_Mo_digest_75 rfl (by decide) rfl ?_
                    refine z_iinc (v := nI (w + 1)) (L' := [(4, _), (1, _), (3, _), (0, _)]) 1 d_Mo_digest_76 rfl (nI_1 w) (by decide) rfl ?_
                    refine z_goto 54 d_Mo_digest_79 (by decide) ?_
                    refine z_sub (L' := [(4, _), (3, _), (1, _), (0, _)]) [0, 2, 1, 3] rfl ?_
                    refine z_widen (k := (12 + 7 * i + (w + 1))) (n := (144 + 49 * i + 7 * (w + 1))) (by omega) (by omega) ?_
                    exact ih_54 (w + 1) _ _ (by omega) (by omega) hM5 hK4 hF5
              refine z_widen (k := 12 + 7 * i + 0) (n := 144 + 49 * i + 7 * 0) (by omega) (by omega) ?_
              exact key_54 (7 + 1) 0 _ _ (by omega) (by omega) hM2 hK2 hF2
        refine z_widen (k := 12 + 7 * 0) (n := 144 + 49 * 0) (by omega) (by omega) ?_
        exact key_38 (nk + 1) 0 _ _ (by omega) (by omega) hM2 hK2 hF2
      · skip
        have hw6 : w ≤ 11 := Nat.le_of_not_lt fun q => c_14 ((nI_ltI (a := 11) (b := w) (by decide) (by omega)).mpr q)
        refine z_lload_n 1 d_Mo_digest_17 rfl rfl ?_
        refine z_ldc2 qXl_Mo_269 d_Mo_digest_18 ?_
        refine z_lmul d_Mo_digest_21 ?_
        refine z_aload_n 2 d_Mo_digest_22 rfl rfl ?_
        refine z_iload_n 0 d_Mo_digest_23 rfl rfl ?_
        refine z_callVp1 ((m_Mo_bankNowE hs0 hst hM2 (show w < 12 by omega))) ym_Mo_bankNow qM_Mo_225 qI_Mo_bankNow qV_Mo_Mo_bankNow zc_Mo hM2.mo d_Mo_digest_24 rfl (Nat.le_of_ble_eq_true rfl) ⟨by show _ ≤ 140; omega, by show _ ≤ 1172; omega⟩ ⟨Nat.le_of_ble_eq_true rfl, Nat.le_of_ble_eq_true rfl⟩ (fun r_24 G_24 hp_24 => ?_)
        obtain ⟨hr_24, hM3, hF3⟩ := hp_24
        rw [mBkA_k hK2] at hr_24
        obtain rfl : r_24 = _ := hr_24
        replace hF3 := hF2.tr hF3
        refine z_i2l d_Mo_digest_27 rfl ?_
        refine z_ladd d_Mo_digest_28 ?_
        refine z_lstore_n (L' := [(1, _), (3, _), (0, _)]) d_Mo_digest_29 rfl (by decide) rfl ?_
        refine z_iinc (v := nI (w + 1)) (L' := [(3, _), (1, _), (0, _)]) 1 d_Mo_digest_30 rfl (nI_1 w) (by decide) rfl ?_
        refine z_goto 11 d_Mo_digest_33 (by decide) ?_
        refine z_widen (k := (w + 1)) (n := (12 * (w + 1))) (by omega) (by omega) ?_
        exact ih_11 (w + 1) _ _ (by omega) (by omega) hM3 hK2 hF3
  exact key_11 (12 + 1) 0 _ _ (by omega) (by omega) hM1 zKp.rf hF1
