
/-- the table of inverses behind i turns of its loop -/
def zti : Nat → Nat → Int32
  | 0 => upd (fun _ => 0) 1 1
  | i + 1 => upd (zti i) (i + 2) (zr97 ((97 - 97 / nI (i + 2)) * zti i (97 % (i + 2))))
/-- the tree behind i turns of the register's loop -/
def zrt : Nat → Nat → Int32
  | 0 => fun _ => 0
  | i + 1 => zjn (zrt i) (nI (63 - i))

theorem d_Cu_init_0 : decode c_Cu_init 0 = .ok (.aload_n 0, 1) := by decide +kernel
theorem d_Cu_init_1 : decode c_Cu_init 1 = .ok (.invokespecial 3, 3) := by decide +kernel
theorem d_Cu_init_4 : decode c_Cu_init 4 = .ok (.aload_n 0, 1) := by decide +kernel
theorem d_Cu_init_5 : decode c_Cu_init 5 = .ok (.iconst 4, 1) := by decide +kernel
theorem d_Cu_init_6 : decode c_Cu_init 6 = .ok (.newarray .int, 2) := by decide +kernel
theorem d_Cu_init_8 : decode c_Cu_init 8 = .ok (.putfield 9, 3) := by decide +kernel
theorem d_Cu_init_11 : decode c_Cu_init 11 = .ok (.aload_n 0, 1) := by decide +kernel
theorem d_Cu_init_12 : decode c_Cu_init 12 = .ok (.bipush 23, 2) := by decide +kernel
theorem d_Cu_init_14 : decode c_Cu_init 14 = .ok (.putfield 15, 3) := by decide +kernel
theorem d_Cu_init_17 : decode c_Cu_init 17 = .ok (.return_, 1) := by decide +kernel
set_option maxHeartbeats 4000000 in
set_option maxRecDepth 100000 in
theorem m_Cu_init {g0 : State} {d : zD} {l : Launch} {a0 : Array Value} (hs0 : zS0 d a0 g0) (hst : l.stackTraces = false) {G : zG} {h : Nat} (hG_Cu : G h = some (zob 3 [.null, .int 0])) : zMet g0 d l y_Cu_init c_Cu_init 1 ((Option.none : Option Jvm.ClassFile.FieldType)) 1 1 4 [.ref h] (G) (fun r G1 => r = none ∧ ∃ hn, G hn = none ∧ g0.heap.size ≤ hn ∧ h ≠ hn ∧ G1 = zu (zu G h (zob 3 [.ref hn, .int 23])) hn (zI d 4 (fun _ => 0))) (zNo) := by
  refine z_entry hs0 hst (by decide) (Nat.le_of_ble_eq_true rfl) (fun p e s m args below meth c => ?_)
  refine z_aload_n 0 d_Cu_init_0 rfl rfl ?_
  refine z_objInit qM_Cu_3 qI_Oj_init_0566 qC_Oj_init_0566 d_Cu_init_1 (by decide) ⟨by decide, by decide⟩ ?_
  refine z_aload_n 0 d_Cu_init_4 rfl rfl ?_
  refine z_iconst (v := 4) d_Cu_init_5 (by decide) ?_
  refine z_newaI 4 qA_int (by decide) rfl (by decide) ⟨by decide, by decide⟩ d_Cu_init_6 (fun hn hn_1 hb_1 => ?_)
  have n_0_1 : h ≠ hn := ne_of_none hG_Cu hn_1
  have hg_1 : G hn = none := hn_1
  have hG_Cu : (zu G hn (zI d 4 (fun _ => 0))) h = some (zob 3 [.null, .int 0]) := (zu_n n_0_1).trans hG_Cu
  refine z_putF zc_Cu 0 (by decide) qF_Cu_9 hG_Cu rfl rfl rfl rfl rfl (Nat.le_of_ble_eq_true rfl) d_Cu_init_8 ?_
  refine z_geq (G' := zu (zu G h (zob 3 [.ref hn, .int 0])) hn (zI d 4 (fun _ => 0))) (by rw [zu_comm n_0_1.symm] <;> rfl) ?_
  have hG_Cu : (zu (zu G h (zob 3 [.ref hn, .int 0])) hn (zI d 4 (fun _ => 0))) h = some (zob 3 [.ref hn, .int 0]) := ((zu_n n_0_1).trans zu_s)
  refine z_aload_n 0 d_Cu_init_11 rfl rfl ?_
  refine z_bipush (v := 23) d_Cu_init_12 (by decide) ?_
  refine z_put zc_Cu 1 (by decide) qF_Cu_15 hG_Cu rfl rfl rfl (Nat.le_of_ble_eq_true rfl) d_Cu_init_14 ?_
  refine z_geq (G' := zu (zu G h (zob 3 [.ref hn, .int 23])) hn (zI d 4 (fun _ => 0))) (by rw [zu_comm n_0_1.symm, zu_zu] <;> rfl) ?_
  exact z_vret rfl (⟨rfl, hn, hg_1, hb_1, n_0_1, rfl⟩) (by first | decide | omega) (by first | decide | omega) d_Cu_init_17
theorem d_Gr_init_0 : decode c_Gr_init 0 = .ok (.aload_n 0, 1) := by decide +kernel
theorem d_Gr_init_1 : decode c_Gr_init 1 = .ok (.invokespecial 3, 3) := by decide +kernel
theorem d_Gr_init_4 : decode c_Gr_init 4 = .ok (.aload_n 0, 1) := by decide +kernel
theorem d_Gr_init_5 : decode c_Gr_init 5 = .ok (.bipush 97, 2) := by decide +kernel
theorem d_Gr_init_7 : decode c_Gr_init 7 = .ok (.newarray .int, 2) := by decide +kernel
theorem d_Gr_init_9 : decode c_Gr_init 9 = .ok (.putfield 9, 3) := by decide +kernel
theorem d_Gr_init_12 : decode c_Gr_init 12 = .ok (.aload_n 0, 1) := by decide +kernel
theorem d_Gr_init_13 : decode c_Gr_init 13 = .ok (.getfield 9, 3) := by decide +kernel
theorem d_Gr_init_16 : decode c_Gr_init 16 = .ok (.iconst 1, 1) := by decide +kernel
theorem d_Gr_init_17 : decode c_Gr_init 17 = .ok (.iconst 1, 1) := by decide +kernel
theorem d_Gr_init_18 : decode c_Gr_init 18 = .ok (.iastore, 1) := by decide +kernel
theorem d_Gr_init_19 : decode c_Gr_init 19 = .ok (.iconst 2, 1) := by decide +kernel
theorem d_Gr_init_20 : decode c_Gr_init 20 = .ok (.istore_n 1, 1) := by decide +kernel
theorem d_Gr_init_21 : decode c_Gr_init 21 = .ok (.iload_n 1, 1) := by decide +kernel
theorem d_Gr_init_22 : decode c_Gr_init 22 = .ok (.bipush 97, 2) := by decide +kernel
theorem d_Gr_init_24 : decode c_Gr_init 24 = .ok (.if_icmp .ge 35, 3) := by decide +kernel
theorem d_Gr_init_27 : decode c_Gr_init 27 = .ok (.aload_n 0, 1) := by decide +kernel
theorem d_Gr_init_28 : decode c_Gr_init 28 = .ok (.getfield 9, 3) := by decide +kernel
theorem d_Gr_init_31 : decode c_Gr_init 31 = .ok (.iload_n 1, 1) := by decide +kernel
theorem d_Gr_init_32 : decode c_Gr_init 32 = .ok (.bipush 97, 2) := by decide +kernel
theorem d_Gr_init_34 : decode c_Gr_init 34 = .ok (.bipush 97, 2) := by decide +kernel
theorem d_Gr_init_36 : decode c_Gr_init 36 = .ok (.iload_n 1, 1) := by decide +kernel
theorem d_Gr_init_37 : decode c_Gr_init 37 = .ok (.idiv, 1) := by decide +kernel
theorem d_Gr_init_38 : decode c_Gr_init 38 = .ok (.isub, 1) := by decide +kernel
theorem d_Gr_init_39 : decode c_Gr_init 39 = .ok (.aload_n 0, 1) := by decide +kernel
theorem d_Gr_init_40 : decode c_Gr_init 40 = .ok (.getfield 9, 3) := by decide +kernel
theorem d_Gr_init_43 : decode c_Gr_init 43 = .ok (.bipush 97, 2) := by decide +kernel
theorem d_Gr_init_45 : decode c_Gr_init 45 = .ok (.iload_n 1, 1) := by decide +kernel
theorem d_Gr_init_46 : decode c_Gr_init 46 = .ok (.irem, 1) := by decide +kernel
theorem d_Gr_init_47 : decode c_Gr_init 47 = .ok (.iaload, 1) := by decide +kernel
theorem d_Gr_init_48 : decode c_Gr_init 48 = .ok (.imul, 1) := by decide +kernel
theorem d_Gr_init_49 : decode c_Gr_init 49 = .ok (.bipush 97, 2) := by decide +kernel
theorem d_Gr_init_51 : decode c_Gr_init 51 = .ok (.irem, 1) := by decide +kernel
theorem d_Gr_init_52 : decode c_Gr_init 52 = .ok (.iastore, 1) := by decide +kernel
theorem d_Gr_init_53 : decode c_Gr_init 53 = .ok (.iinc 1 1, 3) := by decide +kernel
theorem d_Gr_init_56 : decode c_Gr_init 56 = .ok (.goto (-35), 3) := by decide +kernel
theorem d_Gr_init_59 : decode c_Gr_init 59 = .ok (.aload_n 0, 1) := by decide +kernel
theorem d_Gr_init_60 : decode c_Gr_init 60 = .ok (.bipush 9, 2) := by decide +kernel
theorem d_Gr_init_62 : decode c_Gr_init 62 = .ok (.newarray .int, 2) := by decide +kernel
theorem d_Gr_init_64 : decode c_Gr_init 64 = .ok (.putfield 15, 3) := by decide +kernel
theorem d_Gr_init_67 : decode c_Gr_init 67 = .ok (.aload_n 0, 1) := by decide +kernel
theorem d_Gr_init_68 : decode c_Gr_init 68 = .ok (.iconst 1, 1) := by decide +kernel
theorem d_Gr_init_69 : decode c_Gr_init 69 = .ok (.putfield 18, 3) := by decide +kernel
theorem d_Gr_init_72 : decode c_Gr_init 72 = .ok (.aload_n 0, 1) := by decide +kernel
theorem d_Gr_init_73 : decode c_Gr_init 73 = .ok (.iconst 0, 1) := by decide +kernel
theorem d_Gr_init_74 : decode c_Gr_init 74 = .ok (.putfield 22, 3) := by decide +kernel
theorem d_Gr_init_77 : decode c_Gr_init 77 = .ok (.aload_n 0, 1) := by decide +kernel
theorem d_Gr_init_78 : decode c_Gr_init 78 = .ok (.iconst 0, 1) := by decide +kernel
theorem d_Gr_init_79 : decode c_Gr_init 79 = .ok (.putfield 25, 3) := by decide +kernel
theorem d_Gr_init_82 : decode c_Gr_init 82 = .ok (.aload_n 0, 1) := by decide +kernel
theorem d_Gr_init_83 : decode c_Gr_init 83 = .ok (.iconst 0, 1) := by decide +kernel
theorem d_Gr_init_84 : decode c_Gr_init 84 = .ok (.putfield 28, 3) := by decide +kernel
theorem d_Gr_init_87 : decode c_Gr_init 87 = .ok (.return_, 1) := by decide +kernel
set_option maxHeartbeats 4000000 in
set_option maxRecDepth 100000 in
theorem m_Gr_init {g0 : State} {d : zD} {l : Launch} {a0 : Array Value} (hs0 : zS0 d a0 g0) (hst : l.stackTraces = false) {G : zG} {h : Nat} (hG_Gr : G h = some (zob 4 [.null, .null, .int 0, .int 0, .int 0, .int 0])) : zMet g0 d l y_Gr_init c_Gr_init 2 ((Option.none : Option Jvm.ClassFile.FieldType)) 1 2 106 [.ref h] (G) (fun r G1 => r = none ∧ ∃ hi hg, G hi = none ∧ G hg = none ∧ g0.heap.size ≤ hi ∧ g0.heap.size ≤ hg ∧ h ≠ hi ∧ h ≠ hg ∧ hi ≠ hg ∧ G1 = zu (zu (zu G h (zob 4 [.ref hi, .ref hg, .int 1, .int 0, .int 0, .int 0])) hi (zI d 97 (zti 95))) hg (zI d 9 (fun _ => 0))) (zNo) := by
  refine z_entry hs0 hst (by decide) (Nat.le_of_ble_eq_true rfl) (fun p e s m args below meth c => ?_)
  refine z_aload_n 0 d_Gr_init_0 rfl rfl ?_
  refine z_objInit qM_Gr_3 qI_Oj_init_0566 qC_Oj_init_0566 d_Gr_init_1 (by decide) ⟨by decide, by decide⟩ ?_
  refine z_aload_n 0 d_Gr_init_4 rfl rfl ?_
  refine z_bipush (v := 97) d_Gr_init_5 (by decide) ?_
  refine z_newaI 97 qA_int (by decide) rfl (by decide) ⟨by decide, by decide⟩ d_Gr_init_7 (fun hi hn_1 hb_1 => ?_)
  have n_0_1 : h ≠ hi := ne_of_none hG_Gr hn_1
  have hg_1 : G hi = none := hn_1
  have hG_Gr : (zu G hi (zI d 97 (fun _ => 0))) h = some (zob 4 [.null, .null, .int 0, .int 0, .int 0, .int 0]) := (zu_n n_0_1).trans hG_Gr
  refine z_putF zc_Gr 0 (by decide) qF_Gr_9 hG_Gr rfl rfl rfl rfl rfl (Nat.le_of_ble_eq_true rfl) d_Gr_init_9 ?_
  refine z_geq (G' := zu (zu G h (zob 4 [.ref hi, .null, .int 0, .int 0, .int 0, .int 0])) hi (zI d 97 (fun _ => 0))) (by rw [zu_comm n_0_1.symm] <;> rfl) ?_
  have hG_Gr : (zu (zu G h (zob 4 [.ref hi, .null, .int 0, .int 0, .int 0, .int 0])) hi (zI d 97 (fun _ => 0))) h = some (zob 4 [.ref hi, .null, .int 0, .int 0, .int 0, .int 0]) := ((zu_n n_0_1).trans zu_s)
  have hG_i : (zu (zu G h (zob 4 [.ref hi, .null, .int 0, .int 0, .int 0, .int 0])) hi (zI d 97 (fun _ => 0))) hi = some (zI d 97 (fun _ => 0)) := zu_s
  refine z_aload_n 0 d_Gr_init_12 rfl rfl ?_
  refine z_get zc_Gr 0 (by decide) qF_Gr_9 hG_Gr rfl d_Gr_init_13 ?_
  refine z_iconst (v := (nI 1)) d_Gr_init_16 (by decide) ?_
  refine z_iconst (v := 1) d_Gr_init_17 (by decide) ?_
  refine z_iastN hG_i (show 1 < 97 by decide) (by decide) d_Gr_init_18 ?_
  refine z_geq (G' := zu (zu G h (zob 4 [.ref hi, .null, .int 0, .int 0, .int 0, .int 0])) hi (zI d 97 (zti 0))) (by rw [zu_zu] <;> rfl) ?_
  refine z_iconst (v := (nI (0 + 2))) d_Gr_init_19 (by decide) ?_
  refine z_istore_n (L' := [(1, _), (0, _)]) d_Gr_init_20 rfl (by decide) rfl ?_
  have key_21 : ∀ (n : Nat) (i : Nat), 95 - i < n → (i ≤ 95) → Z g0 d y_Gr_init c_Gr_init 2 ((Option.none : Option Jvm.ClassFile.FieldType)) [] p l e (zR 1 2 106) s m args below meth c (vx_MQ below (zQc g0 d (fun r G1 => r = none ∧ ∃ hi hg, G hi = none ∧ G hg = none ∧ g0.heap.size ≤ hi ∧ g0.heap.size ≤ hg ∧ h ≠ hi ∧ h ≠ hg ∧ hi ≠ hg ∧ G1 = zu (zu (zu G h (zob 4 [.ref hi, .ref hg, .int 1, .int 0, .int 0, .int 0])) hi (zI d 97 (zti 95))) hg (zI d 9 (fun _ => 0)))) (zXc g0 d (zNo)) args s 2 106 (zA g0)) 1 97 (zu (zu G h (zob 4 [.ref hi, .null, .int 0, .int 0, .int 0, .int 0])) hi (zI d 97 (zti i))) [(1, .int (nI (i + 2))), (0, .ref h)] [] 21 := by
    intro n
    induction n with
    | zero => intro i h0; exact absurd h0 (Nat.not_lt_zero _)
    | succ n ih_21 =>
      intro i hm_21 hi5
      have hG_Gr : (zu (zu G h (zob 4 [.ref hi, .null, .int 0, .int 0, .int 0, .int 0])) hi (zI d 97 (zti i))) h = some (zob 4 [.ref hi, .null, .int 0, .int 0, .int 0, .int 0]) := ((zu_n n_0_1).trans zu_s)
      have hG_i : (zu (zu G h (zob 4 [.ref hi, .null, .int 0, .int 0, .int 0, .int 0])) hi (zI d 97 (zti i))) hi = some (zI d 97 (zti i)) := zu_s
      refine z_iload_n 0 d_Gr_init_21 rfl rfl ?_
      refine z_bipush (v := 97) d_Gr_init_22 (by decide) ?_
      refine z_icmp_ge 59 d_Gr_init_24 (by decide) (fun c_24 => ?_) (fun c_24 => ?_)
      · skip
        obtain rfl : i = 95 := by
          have := (nI_leI (a := 97) (b := i + 2) (by decide) (by omega)).mp c_24
          omega
        refine z_aload_n 1 d_Gr_init_59 rfl rfl ?_
        refine z_bipush (v := 9) d_Gr_init_60 (by decide) ?_
        refine z_newaI 9 qA_int (by decide) rfl (by decide) ⟨by decide, by decide⟩ d_Gr_init_62 (fun hg hn_2 hb_2 => ?_)
        have n_0_2 : h ≠ hg := ne_of_none ((zu_n n_0_1).trans zu_s) hn_2
        have n_1_2 : hi ≠ hg := ne_of_none zu_s hn_2
        have hg_2 : G hg = none := by rw [zu_n n_1_2.symm, zu_n n_0_2.symm] at hn_2; exact hn_2
        have hG_Gr : (zu (zu (zu G h (zob 4 [.ref hi, .null, .int 0, .int 0, .int 0, .int 0])) hi (zI d 97 (zti 95))) hg (zI d 9 (fun _ => 0))) h = some (zob 4 [.ref hi, .null, .int 0, .int 0, .int 0, .int 0]) := ((zu_n n_0_2).trans ((zu_n n_0_1).trans zu_s))
        refine z_putF zc_Gr 1 (by decide) qF_Gr_15 hG_Gr rfl rfl rfl rfl rfl (Nat.le_of_ble_eq_true rfl) d_Gr_init_64 ?_
        refine z_geq (G' := zu (zu (zu G h (zob 4 [.ref hi, .ref hg, .int 0, .int 0, .int 0, .int 0])) hi (zI d 97 (zti 95))) hg (zI d 9 (fun _ => 0))) (by rw [zu_comm n_0_2.symm, zu_comm n_0_1.symm, zu_zu] <;> rfl) ?_
        have hG_Gr : (zu (zu (zu G h (zob 4 [.ref hi, .ref hg, .int 0, .int 0, .int 0, .int 0])) hi (zI d 97 (zti 95))) hg (zI d 9 (fun _ => 0))) h = some (zob 4 [.ref hi, .ref hg, .int 0, .int 0, .int 0, .int 0]) := ((zu_n n_0_2).trans ((zu_n n_0_1).trans zu_s))
        refine z_aload_n 1 d_Gr_init_67 rfl rfl ?_
        refine z_iconst (v := 1) d_Gr_init_68 (by decide) ?_
        refine z_put zc_Gr 2 (by decide) qF_Gr_18 hG_Gr rfl rfl rfl (Nat.le_of_ble_eq_true rfl) d_Gr_init_69 ?_
        refine z_geq (G' := zu (zu (zu G h (zob 4 [.ref hi, .ref hg, .int 1, .int 0, .int 0, .int 0])) hi (zI d 97 (zti 95))) hg (zI d 9 (fun _ => 0))) (by rw [zu_comm n_0_2.symm, zu_comm n_0_1.symm, zu_zu] <;> rfl) ?_
        have hG_Gr : (zu (zu (zu G h (zob 4 [.ref hi, .ref hg, .int 1, .int 0, .int 0, .int 0])) hi (zI d 97 (zti 95))) hg (zI d 9 (fun _ => 0))) h = some (zob 4 [.ref hi, .ref hg, .int 1, .int 0, .int 0, .int 0]) := ((zu_n n_0_2).trans ((zu_n n_0_1).trans zu_s))
        refine z_aload_n 1 d_Gr_init_72 rfl rfl ?_
        refine z_iconst (v := 0) d_Gr_init_73 (by decide) ?_
        refine z_put zc_Gr 3 (by decide) qF_Gr_22 hG_Gr rfl rfl rfl (Nat.le_of_ble_eq_true rfl) d_Gr_init_74 ?_
        refine z_geq (G' := zu (zu (zu G h (zob 4 [.ref hi, .ref hg, .int 1, .int 0, .int 0, .int 0])) hi (zI d 97 (zti 95))) hg (zI d 9 (fun _ => 0))) (by rw [zu_comm n_0_2.symm, zu_comm n_0_1.symm, zu_zu] <;> rfl) ?_
        have hG_Gr : (zu (zu (zu G h (zob 4 [.ref hi, .ref hg, .int 1, .int 0, .int 0, .int 0])) hi (zI d 97 (zti 95))) hg (zI d 9 (fun _ => 0))) h = some (zob 4 [.ref hi, .ref hg, .int 1, .int 0, .int 0, .int 0]) := ((zu_n n_0_2).trans ((zu_n n_0_1).trans zu_s))
        refine z_aload_n 1 d_Gr_init_77 rfl rfl ?_
        refine z_iconst (v := 0) d_Gr_init_78 (by decide) ?_
        refine z_put zc_Gr 4 (by decide) qF_Gr_25 hG_Gr rfl rfl rfl (Nat.le_of_ble_eq_true rfl) d_Gr_init_79 ?_
        refine z_geq (G' := zu (zu (zu G h (zob 4 [.ref hi, .ref hg, .int 1, .int 0, .int 0, .int 0])) hi (zI d 97 (zti 95))) hg (zI d 9 (fun _ => 0))) (by rw [zu_comm n_0_2.symm, zu_comm n_0_1.symm, zu_zu] <;> rfl) ?_
        have hG_Gr : (zu (zu (zu G h (zob 4 [.ref hi, .ref hg, .int 1, .int 0, .int 0, .int 0])) hi (zI d 97 (zti 95))) hg (zI d 9 (fun _ => 0))) h = some (zob 4 [.ref hi, .ref hg, .int 1, .int 0, .int 0, .int 0]) := ((zu_n n_0_2).trans ((zu_n n_0_1).trans zu_s))
        refine z_aload_n 1 d_Gr_init_82 rfl rfl ?_
        refine z_iconst (v := 0) d_Gr_init_83 (by decide) ?_
        refine z_put zc_Gr 5 (by decide) qF_Gr_28 hG_Gr rfl rfl rfl (Nat.le_of_ble_eq_true rfl) d_Gr_init_84 ?_
        refine z_geq (G' := zu (zu (zu G h (zob 4 [.ref hi, .ref hg, .int 1, .int 0, .int 0, .int 0])) hi (zI d 97 (zti 95))) hg (zI d 9 (fun _ => 0))) (by rw [zu_comm n_0_2.symm, zu_comm n_0_1.symm, zu_zu] <;> rfl) ?_
        exact z_vret rfl (⟨rfl, hi, hg, hg_1, hg_2, hb_1, hb_2, n_0_1, n_0_2, n_1_2, rfl⟩) (by first | decide | omega) (by first | decide | omega) d_Gr_init_87
      · skip
        have hi95 : i < 95 := by
          have : ¬ 97 ≤ i + 2 := fun q => c_24 (nI_le (a := 97) (b := i + 2) q (by omega))
          omega
        refine z_aload_n 1 d_Gr_init_27 rfl rfl ?_
        refine z_get zc_Gr 0 (by decide) qF_Gr_9 hG_Gr rfl d_Gr_init_28 ?_
        refine z_iload_n 0 d_Gr_init_31 rfl rfl ?_
        refine z_bipush (v := 97) d_Gr_init_32 (by decide) ?_
        refine z_bipush (v := 97) d_Gr_init_34 (by decide) ?_
        refine z_iload_n 0 d_Gr_init_36 rfl rfl ?_
        refine z_idiv d_Gr_init_37 (fun z => by rw [nI_z (by omega)] at z; omega) ?_
        refine z_isub d_Gr_init_38 ?_
        refine z_aload_n 1 d_Gr_init_39 rfl rfl ?_
        refine z_get zc_Gr 0 (by decide) qF_Gr_9 hG_Gr rfl d_Gr_init_40 ?_
        refine z_bipush (v := (nI 97)) d_Gr_init_43 (by decide) ?_
        refine z_iload_n 0 d_Gr_init_45 rfl rfl ?_
        refine z_irem d_Gr_init_46 (fun z => by rw [nI_z (by omega)] at z; omega) ?_
        refine z_topv (pk_rem (a := 97) (d := i + 2) (by decide) (by omega) (by omega)) ?_
        refine z_ialdN hG_i (show 97 % (i + 2) < 97 by have := Nat.mod_lt 97 (show 0 < i + 2 by omega); omega) (by decide) d_Gr_init_47 ?_
        refine z_imul d_Gr_init_48 ?_
        refine z_bipush (v := 97) d_Gr_init_49 (by decide) ?_
        refine z_irem d_Gr_init_51 (by decide) ?_
        refine z_iastN hG_i (show i + 2 < 97 by omega) (by decide) d_Gr_init_52 ?_
        refine z_geq (G' := zu (zu G h (zob 4 [.ref hi, .null, .int 0, .int 0, .int 0, .int 0])) hi (zI d 97 (zti (i + 1)))) (by rw [zu_zu] <;> rfl) ?_
        refine z_iinc (v := nI (i + 1 + 2)) (L' := [(1, _), (0, _)]) 0 d_Gr_init_53 rfl (nI_1 (i + 2)) (by decide) rfl ?_
        refine z_goto 21 d_Gr_init_56 (by decide) ?_
        exact ih_21 (i + 1) (by omega) (by omega)
  exact key_21 96 0 (by omega) (by omega)
theorem d_Re_init_0 : decode c_Re_init 0 = .ok (.aload_n 0, 1) := by decide +kernel
theorem d_Re_init_1 : decode c_Re_init 1 = .ok (.invokespecial 3, 3) := by decide +kernel
theorem d_Re_init_4 : decode c_Re_init 4 = .ok (.aload_n 0, 1) := by decide +kernel
theorem d_Re_init_5 : decode c_Re_init 5 = .ok (.bipush 64, 2) := by decide +kernel
theorem d_Re_init_7 : decode c_Re_init 7 = .ok (.newarray .int, 2) := by decide +kernel
theorem d_Re_init_9 : decode c_Re_init 9 = .ok (.putfield 11, 3) := by decide +kernel
theorem d_Re_init_12 : decode c_Re_init 12 = .ok (.aload_n 0, 1) := by decide +kernel
theorem d_Re_init_13 : decode c_Re_init 13 = .ok (.bipush 64, 2) := by decide +kernel
theorem d_Re_init_15 : decode c_Re_init 15 = .ok (.newarray .int, 2) := by decide +kernel
theorem d_Re_init_17 : decode c_Re_init 17 = .ok (.putfield 15, 3) := by decide +kernel
theorem d_Re_init_20 : decode c_Re_init 20 = .ok (.aload_n 0, 1) := by decide +kernel
theorem d_Re_init_21 : decode c_Re_init 21 = .ok (.bipush 64, 2) := by decide +kernel
theorem d_Re_init_23 : decode c_Re_init 23 = .ok (.newarray .int, 2) := by decide +kernel
theorem d_Re_init_25 : decode c_Re_init 25 = .ok (.putfield 18, 3) := by decide +kernel
theorem d_Re_init_28 : decode c_Re_init 28 = .ok (.aload_n 0, 1) := by decide +kernel
theorem d_Re_init_29 : decode c_Re_init 29 = .ok (.sipush 128, 3) := by decide +kernel
theorem d_Re_init_32 : decode c_Re_init 32 = .ok (.newarray .int, 2) := by decide +kernel
theorem d_Re_init_34 : decode c_Re_init 34 = .ok (.putfield 21, 3) := by decide +kernel
theorem d_Re_init_37 : decode c_Re_init 37 = .ok (.aload_n 0, 1) := by decide +kernel
theorem d_Re_init_38 : decode c_Re_init 38 = .ok (.iconst 0, 1) := by decide +kernel
theorem d_Re_init_39 : decode c_Re_init 39 = .ok (.putfield 24, 3) := by decide +kernel
theorem d_Re_init_42 : decode c_Re_init 42 = .ok (.bipush 63, 2) := by decide +kernel
theorem d_Re_init_44 : decode c_Re_init 44 = .ok (.istore_n 1, 1) := by decide +kernel
theorem d_Re_init_45 : decode c_Re_init 45 = .ok (.iload_n 1, 1) := by decide +kernel
theorem d_Re_init_46 : decode c_Re_init 46 = .ok (.iconst 1, 1) := by decide +kernel
theorem d_Re_init_47 : decode c_Re_init 47 = .ok (.if_icmp .lt 14, 3) := by decide +kernel
theorem d_Re_init_50 : decode c_Re_init 50 = .ok (.aload_n 0, 1) := by decide +kernel
theorem d_Re_init_51 : decode c_Re_init 51 = .ok (.iload_n 1, 1) := by decide +kernel
theorem d_Re_init_52 : decode c_Re_init 52 = .ok (.invokevirtual 28, 3) := by decide +kernel
theorem d_Re_init_55 : decode c_Re_init 55 = .ok (.iinc 1 (-1), 3) := by decide +kernel
theorem d_Re_init_58 : decode c_Re_init 58 = .ok (.goto (-13), 3) := by decide +kernel
theorem d_Re_init_61 : decode c_Re_init 61 = .ok (.return_, 1) := by decide +kernel
set_option maxHeartbeats 4000000 in
set_option maxRecDepth 100000 in
theorem m_Re_init {g0 : State} {d : zD} {l : Launch} {a0 : Array Value} (hs0 : zS0 d a0 g0) (hst : l.stackTraces = false) {G : zG} {h : Nat} (hG_Re : G h = some (zob 6 [.null, .null, .null, .null, .int 0])) : zMet g0 d l y_Re_init c_Re_init 2 ((Option.none : Option Jvm.ClassFile.FieldType)) 3 4 320 [.ref h] (G) (fun r G1 => r = none ∧ ∃ rk rs rd rt, (G rk = none ∧ G rs = none ∧ G rd = none ∧ G rt = none) ∧ (g0.heap.size ≤ rk ∧ g0.heap.size ≤ rs ∧ g0.heap.size ≤ rd ∧ g0.heap.size ≤ rt) ∧ (h ≠ rk ∧ h ≠ rs ∧ h ≠ rd ∧ h ≠ rt) ∧ (rk ≠ rs ∧ rk ≠ rd ∧ rk ≠ rt ∧ rs ≠ rd ∧ rs ≠ rt ∧ rd ≠ rt) ∧ G1 = zu (zu (zu (zu (zu G h (zob 6 [.ref rk, .ref rs, .ref rd, .ref rt, .int 0])) rk (zI d 64 (fun _ => 0))) rs (zI d 64 (fun _ => 0))) rd (zI d 64 (fun _ => 0))) rt (zI d 128 (zrt 63))) (zNo) := by
  refine z_entry hs0 hst (by decide) (Nat.le_of_ble_eq_true rfl) (fun p e s m args below meth c => ?_)
  refine z_aload_n 0 d_Re_init_0 rfl rfl ?_
  refine z_objInit qM_Re_3 qI_Oj_init_0566 qC_Oj_init_0566 d_Re_init_1 (by decide) ⟨by decide, by decide⟩ ?_
  refine z_aload_n 0 d_Re_init_4 rfl rfl ?_
  refine z_bipush (v := 64) d_Re_init_5 (by decide) ?_
  refine z_newaI 64 qA_int (by decide) rfl (by decide) ⟨by decide, by decide⟩ d_Re_init_7 (fun rk hn_1 hb_1 => ?_)
  have n_0_1 : h ≠ rk := ne_of_none hG_Re hn_1
  have hg_1 : G rk = none := hn_1
  have hG_Re : (zu G rk (zI d 64 (fun _ => 0))) h = some (zob 6 [.null, .null, .null, .null, .int 0]) := (zu_n n_0_1).trans hG_Re
  refine z_putF zc_Re 0 (by decide) qF_Re_11 hG_Re rfl rfl rfl rfl rfl (Nat.le_of_ble_eq_true rfl) d_Re_init_9 ?_
  refine z_geq (G' := zu (zu G h (zob 6 [.ref rk, .null, .null, .null, .int 0])) rk (zI d 64 (fun _ => 0))) (by rw [zu_comm n_0_1.symm] <;> rfl) ?_
  refine z_aload_n 0 d_Re_init_12 rfl rfl ?_
  refine z_bipush (v := 64) d_Re_init_13 (by decide) ?_
  refine z_newaI 64 qA_int (by decide) rfl (by decide) ⟨by decide, by decide⟩ d_Re_init_15 (fun rs hn_2 hb_2 => ?_)
  have n_0_2 : h ≠ rs := ne_of_none ((zu_n n_0_1).trans zu_s) hn_2
  have n_1_2 : rk ≠ rs := ne_of_none zu_s hn_2
  have hg_2 : G rs = none := by rw [zu_n n_1_2.symm, zu_n n_0_2.symm] at hn_2; exact hn_2
  have hG_Re : (zu (zu (zu G h (zob 6 [.ref rk, .null, .null, .null, .int 0])) rk (zI d 64 (fun _ => 0))) rs (zI d 64 (fun _ => 0))) h = some (zob 6 [.ref rk, .null, .null, .null, .int 0]) := ((zu_n n_0_2).trans ((zu_n n_0_1).trans zu_s))
  refine z_putF zc_Re 1 (by decide) qF_Re_15 hG_Re rfl rfl rfl rfl rfl (Nat.le_of_ble_eq_true rfl) d_Re_init_17 ?_
  refine z_geq (G' := zu (zu (zu G h (zob 6 [.ref rk, .ref rs, .null, .null, .int 0])) rk (zI d 64 (fun _ => 0))) rs (zI d 64 (fun _ => 0))) (by rw [zu_comm n_0_2.symm, zu_comm n_0_1.symm, zu_zu] <;> rfl) ?_
  refine z_aload_n 0 d_Re_init_20 rfl rfl ?_
  refine z_bipush (v := 64) d_Re_init_21 (by decide) ?_
  refine z_newaI 64 qA_int (by decide) rfl (by decide) ⟨by decide, by decide⟩ d_Re_init_23 (fun rd hn_3 hb_3 => ?_)
  have n_0_3 : h ≠ rd := ne_of_none ((zu_n n_0_2).trans ((zu_n n_0_1).trans zu_s)) hn_3
  have n_1_3 : rk ≠ rd := ne_of_none ((zu_n n_1_2).trans zu_s) hn_3
  have n_2_3 : rs ≠ rd := ne_of_none zu_s hn_3
  have hg_3 : G rd = none := by rw [zu_n n_2_3.symm, zu_n n_1_3.symm, zu_n n_0_3.symm] at hn_3; exact hn_3
  have hG_Re : (zu (zu (zu (zu G h (zob 6 [.ref rk, .ref rs, .null, .null, .int 0])) rk (zI d 64 (fun _ => 0))) rs (zI d 64 (fun _ => 0))) rd (zI d 64 (fun _ => 0))) h = some (zob 6 [.ref rk, .ref rs, .null, .null, .int 0]) := ((zu_n n_0_3).trans ((zu_n n_0_2).trans ((zu_n n_0_1).trans zu_s)))
  refine z_putF zc_Re 2 (by decide) qF_Re_18 hG_Re rfl rfl rfl rfl rfl (Nat.le_of_ble_eq_true rfl) d_Re_init_25 ?_
  refine z_geq (G' := zu (zu (zu (zu G h (zob 6 [.ref rk, .ref rs, .ref rd, .null, .int 0])) rk (zI d 64 (fun _ => 0))) rs (zI d 64 (fun _ => 0))) rd (zI d 64 (fun _ => 0))) (by rw [zu_comm n_0_3.symm, zu_comm n_0_2.symm, zu_comm n_0_1.symm, zu_zu] <;> rfl) ?_
  refine z_aload_n 0 d_Re_init_28 rfl rfl ?_
  refine z_sipush (v := 128) d_Re_init_29 (by decide) ?_
  refine z_newaI 128 qA_int (by decide) rfl (by decide) ⟨by decide, by decide⟩ d_Re_init_32 (fun rt hn_4 hb_4 => ?_)
  have n_0_4 : h ≠ rt := ne_of_none ((zu_n n_0_3).trans ((zu_n n_0_2).trans ((zu_n n_0_1).trans zu_s))) hn_4
  have n_1_4 : rk ≠ rt := ne_of_none ((zu_n n_1_3).trans ((zu_n n_1_2).trans zu_s)) hn_4
  have n_2_4 : rs ≠ rt := ne_of_none ((zu_n n_2_3).trans zu_s) hn_4
  have n_3_4 : rd ≠ rt := ne_of_none zu_s hn_4
  have hg_4 : G rt = none := by rw [zu_n n_3_4.symm, zu_n n_2_4.symm, zu_n n_1_4.symm, zu_n n_0_4.symm] at hn_4; exact hn_4
  have hG_Re : (zu (zu (zu (zu (zu G h (zob 6 [.ref rk, .ref rs, .ref rd, .null, .int 0])) rk (zI d 64 (fun _ => 0))) rs (zI d 64 (fun _ => 0))) rd (zI d 64 (fun _ => 0))) rt (zI d 128 (fun _ => 0))) h = some (zob 6 [.ref rk, .ref rs, .ref rd, .null, .int 0]) := ((zu_n n_0_4).trans ((zu_n n_0_3).trans ((zu_n n_0_2).trans ((zu_n n_0_1).trans zu_s))))
  refine z_putF zc_Re 3 (by decide) qF_Re_21 hG_Re rfl rfl rfl rfl rfl (Nat.le_of_ble_eq_true rfl) d_Re_init_34 ?_
  refine z_geq (G' := zu (zu (zu (zu (zu G h (zob 6 [.ref rk, .ref rs, .ref rd, .ref rt, .int 0])) rk (zI d 64 (fun _ => 0))) rs (zI d 64 (fun _ => 0))) rd (zI d 64 (fun _ => 0))) rt (zI d 128 (fun _ => 0))) (by rw [zu_comm n_0_4.symm, zu_comm n_0_3.symm, zu_comm n_0_2.symm, zu_comm n_0_1.symm, zu_zu] <;> rfl) ?_
  have hG_Re : (zu (zu (zu (zu (zu G h (zob 6 [.ref rk, .ref rs, .ref rd, .ref rt, .int 0])) rk (zI d 64 (fun _ => 0))) rs (zI d 64 (fun _ => 0))) rd (zI d 64 (fun _ => 0))) rt (zI d 128 (fun _ => 0))) h = some (zob 6 [.ref rk, .ref rs, .ref rd, .ref rt, .int 0]) := ((zu_n n_0_4).trans ((zu_n n_0_3).trans ((zu_n n_0_2).trans ((zu_n n_0_1).trans zu_s))))
  refine z_aload_n 0 d_Re_init_37 rfl rfl ?_
  refine z_iconst (v := 0) d_Re_init_38 (by decide) ?_
  refine z_put zc_Re 4 (by decide) qF_Re_24 hG_Re rfl rfl rfl (Nat.le_of_ble_eq_true rfl) d_Re_init_39 ?_
  refine z_geq (G' := zu (zu (zu (zu (zu G h (zob 6 [.ref rk, .ref rs, .ref rd, .ref rt, .int 0])) rk (zI d 64 (fun _ => 0))) rs (zI d 64 (fun _ => 0))) rd (zI d 64 (fun _ => 0))) rt (zI d 128 (zrt 0))) (by rw [zu_comm n_0_4.symm, zu_comm n_0_3.symm, zu_comm n_0_2.symm, zu_comm n_0_1.symm, zu_zu] <;> rfl) ?_
  refine z_bipush (v := (nI (63 - 0))) d_Re_init_42 (by decide) ?_
  refine z_istore_n (L' := [(1, _), (0, _)]) d_Re_init_44 rfl (by decide) rfl ?_
  have key_45 : ∀ (n : Nat) (i : Nat), 64 - i < n → (i ≤ 63) → Z g0 d y_Re_init c_Re_init 2 ((Option.none : Option Jvm.ClassFile.FieldType)) [] p l e (zR 3 4 320) s m args below meth c (vx_MQ below (zQc g0 d (fun r G1 => r = none ∧ ∃ rk rs rd rt, (G rk = none ∧ G rs = none ∧ G rd = none ∧ G rt = none) ∧ (g0.heap.size ≤ rk ∧ g0.heap.size ≤ rs ∧ g0.heap.size ≤ rd ∧ g0.heap.size ≤ rt) ∧ (h ≠ rk ∧ h ≠ rs ∧ h ≠ rd ∧ h ≠ rt) ∧ (rk ≠ rs ∧ rk ≠ rd ∧ rk ≠ rt ∧ rs ≠ rd ∧ rs ≠ rt ∧ rd ≠ rt) ∧ G1 = zu (zu (zu (zu (zu G h (zob 6 [.ref rk, .ref rs, .ref rd, .ref rt, .int 0])) rk (zI d 64 (fun _ => 0))) rs (zI d 64 (fun _ => 0))) rd (zI d 64 (fun _ => 0))) rt (zI d 128 (zrt 63)))) (zXc g0 d (zNo)) args s 4 320 (zA g0)) 4 320 (zu (zu (zu (zu (zu G h (zob 6 [.ref rk, .ref rs, .ref rd, .ref rt, .int 0])) rk (zI d 64 (fun _ => 0))) rs (zI d 64 (fun _ => 0))) rd (zI d 64 (fun _ => 0))) rt (zI d 128 (zrt i))) [(1, .int (nI (63 - i))), (0, .ref h)] [] 45 := by
    intro n
    induction n with
    | zero => intro i h0; exact absurd h0 (Nat.not_lt_zero _)
    | succ n ih_45 =>
      intro i hm_45 hi
      have hG_Re : (zu (zu (zu (zu (zu G h (zob 6 [.ref rk, .ref rs, .ref rd, .ref rt, .int 0])) rk (zI d 64 (fun _ => 0))) rs (zI d 64 (fun _ => 0))) rd (zI d 64 (fun _ => 0))) rt (zI d 128 (zrt i))) h = some (zob 6 [.ref rk, .ref rs, .ref rd, .ref rt, .int 0]) := ((zu_n n_0_4).trans ((zu_n n_0_3).trans ((zu_n n_0_2).trans ((zu_n n_0_1).trans zu_s))))
      have hG_t : (zu (zu (zu (zu (zu G h (zob 6 [.ref rk, .ref rs, .ref rd, .ref rt, .int 0])) rk (zI d 64 (fun _ => 0))) rs (zI d 64 (fun _ => 0))) rd (zI d 64 (fun _ => 0))) rt (zI d 128 (zrt i))) rt = some (zI d 128 (zrt i)) := zu_s
      refine z_iload_n 0 d_Re_init_45 rfl rfl ?_
      refine z_iconst (v := 1) d_Re_init_46 (by decide) ?_
      refine z_icmp_lt 61 d_Re_init_47 (by decide) (fun c_47 => ?_) (fun c_47 => ?_)
      · skip
        obtain rfl : i = 63 := by
          have := (nI_ltI (a := 63 - i) (b := 1) (by omega) (by decide)).mp c_47
          omega
        exact z_vret rfl (⟨rfl, rk, rs, rd, rt, ⟨hg_1, hg_2, hg_3, hg_4⟩, ⟨hb_1, hb_2, hb_3, hb_4⟩, ⟨n_0_1, n_0_2, n_0_3, n_0_4⟩, ⟨n_1_2, n_1_3, n_1_4, n_2_3, n_2_4, n_3_4⟩, rfl⟩) (by first | decide | omega) (by first | decide | omega) d_Re_init_61
      · skip
        have hi63 : i < 63 := by
          have : ¬ 63 - i < 1 := fun q => c_47 ((nI_ltI (a := 63 - i) (b := 1) (by omega) (by decide)).mpr q)
          omega
        refine z_aload_n 1 d_Re_init_50 rfl rfl ?_
        refine z_iload_n 0 d_Re_init_51 rfl rfl ?_
        refine z_callV0 (m_Re_joinAt hs0 hst hG_Re hG_t (nI (63 - i))) ym_Re_joinAt qM_Re_28 qI_Re_joinAt qV_Re_Re_joinAt zc_Re hG_Re d_Re_init_52 rfl (Nat.le_of_ble_eq_true rfl) ⟨by decide, by decide⟩ ⟨Nat.le_of_ble_eq_true rfl, Nat.le_of_ble_eq_true rfl⟩ ?_
        refine z_geq (G' := zu (zu (zu (zu (zu G h (zob 6 [.ref rk, .ref rs, .ref rd, .ref rt, .int 0])) rk (zI d 64 (fun _ => 0))) rs (zI d 64 (fun _ => 0))) rd (zI d 64 (fun _ => 0))) rt (zI d 128 (zrt (i + 1)))) (by rw [zu_zu] <;> rfl) ?_
        refine z_iinc (v := nI (63 - (i + 1))) (L' := [(1, _), (0, _)]) 0 d_Re_init_55 rfl (by rw [z_m1, show 63 - i = 63 - (i + 1) + 1 by omega, ← nI_1, Int32.add_sub_cancel]) (by decide) rfl ?_
        refine z_goto 45 d_Re_init_58 (by decide) ?_
        exact ih_45 (i + 1) (by omega) (by omega)
  exact key_45 65 0 (by omega) (by omega)
