
/-- some int, nothing changed; a boolean -/
def zI1 (G : zG) : Option Value → zG → Prop := fun r G1 => (∃ v : Int32, r = some (.int v)) ∧ G = G1
def zB1 (G : zG) : Option Value → zG → Prop := fun r G1 => (∃ b : Bool, r = some (.int (zb b))) ∧ G = G1

theorem d_Tb_notedKeepers_0 : decode c_Tb_notedKeepers 0 = .ok (.iconst 0, 1) := by decide +kernel
theorem d_Tb_notedKeepers_1 : decode c_Tb_notedKeepers 1 = .ok (.istore_n 1, 1) := by decide +kernel
theorem d_Tb_notedKeepers_2 : decode c_Tb_notedKeepers 2 = .ok (.iconst 0, 1) := by decide +kernel
theorem d_Tb_notedKeepers_3 : decode c_Tb_notedKeepers 3 = .ok (.istore_n 2, 1) := by decide +kernel
theorem d_Tb_notedKeepers_4 : decode c_Tb_notedKeepers 4 = .ok (.iload_n 2, 1) := by decide +kernel
theorem d_Tb_notedKeepers_5 : decode c_Tb_notedKeepers 5 = .ok (.aload_n 0, 1) := by decide +kernel
theorem d_Tb_notedKeepers_6 : decode c_Tb_notedKeepers 6 = .ok (.getfield 10, 3) := by decide +kernel
theorem d_Tb_notedKeepers_9 : decode c_Tb_notedKeepers 9 = .ok (.invokevirtual 68, 3) := by decide +kernel
theorem d_Tb_notedKeepers_12 : decode c_Tb_notedKeepers 12 = .ok (.if_icmp .ge 29, 3) := by decide +kernel
theorem d_Tb_notedKeepers_15 : decode c_Tb_notedKeepers 15 = .ok (.aload_n 0, 1) := by decide +kernel
theorem d_Tb_notedKeepers_16 : decode c_Tb_notedKeepers 16 = .ok (.getfield 10, 3) := by decide +kernel
theorem d_Tb_notedKeepers_19 : decode c_Tb_notedKeepers 19 = .ok (.iload_n 2, 1) := by decide +kernel
theorem d_Tb_notedKeepers_20 : decode c_Tb_notedKeepers 20 = .ok (.invokevirtual 166, 3) := by decide +kernel
theorem d_Tb_notedKeepers_23 : decode c_Tb_notedKeepers 23 = .ok (.checkcast 77, 3) := by decide +kernel
theorem d_Tb_notedKeepers_26 : decode c_Tb_notedKeepers 26 = .ok (.getfield 348, 3) := by decide +kernel
theorem d_Tb_notedKeepers_29 : decode c_Tb_notedKeepers 29 = .ok (.ifCond .eq 6, 3) := by decide +kernel
theorem d_Tb_notedKeepers_32 : decode c_Tb_notedKeepers 32 = .ok (.iinc 1 1, 3) := by decide +kernel
theorem d_Tb_notedKeepers_35 : decode c_Tb_notedKeepers 35 = .ok (.iinc 2 1, 3) := by decide +kernel
theorem d_Tb_notedKeepers_38 : decode c_Tb_notedKeepers 38 = .ok (.goto (-34), 3) := by decide +kernel
theorem d_Tb_notedKeepers_41 : decode c_Tb_notedKeepers 41 = .ok (.iload_n 1, 1) := by decide +kernel
theorem d_Tb_notedKeepers_42 : decode c_Tb_notedKeepers 42 = .ok (.ireturn, 1) := by decide +kernel
set_option maxHeartbeats 4000000 in
set_option maxRecDepth 100000 in
theorem m_Tb_notedKeepers {g0 : State} {d : zD} {l : Launch} {a0 : Array Value} (hs0 : zS0 d a0 g0) (hst : l.stackTraces = false) {G : zG} {A : Nat → Nat} {D : Nat → UInt64} {V : Nat → Nat → Int32} {nk ns : Nat} (hT : zT d A D V nk ns G) : zMet g0 d l y_Tb_notedKeepers c_Tb_notedKeepers 3 ((Option.some Jvm.ClassFile.FieldType.int)) 11 0 0 [.ref (A 0)] (G) (zI1 G) (zNo) := by
  have hG_Tb := hT.tb
  have hnk : nk ≤ 8 := hT.2.1
  have hns : ns ≤ 6 := hT.2.2.1
  refine z_entry hs0 hst (by decide) (Nat.le_of_ble_eq_true rfl) (fun p e s m args below meth c => ?_)
  refine z_iconst (v := 0) d_Tb_notedKeepers_0 (by decide) ?_
  refine z_istore_n (L' := [(1, _), (0, _)]) d_Tb_notedKeepers_1 rfl (by decide) rfl ?_
  refine z_iconst (v := (nI 0)) d_Tb_notedKeepers_2 (by decide) ?_
  refine z_istore_n (L' := [(2, _), (1, _), (0, _)]) d_Tb_notedKeepers_3 rfl (by decide) rfl ?_
  have key_4 : ∀ (n : Nat) (i : Nat) (v : Int32), nk - i < n → (i ≤ nk) → Z g0 d y_Tb_notedKeepers c_Tb_notedKeepers 3 ((Option.some Jvm.ClassFile.FieldType.int)) [] p l e (zR 11 0 0) s m args below meth c (vx_MQ below (zQc g0 d (zI1 G)) (zXc g0 d (zNo)) args s 0 0 (zA g0)) 0 0 (G) [(2, .int (nI i)), (1, .int v), (0, .ref (A 0))] [] 4 := by
    intro n
    induction n with
    | zero => intro i v h0; exact absurd h0 (Nat.not_lt_zero _)
    | succ n ih_4 =>
      intro i v hm_4 hi
      refine z_iload_n 0 d_Tb_notedKeepers_4 rfl rfl ?_
      refine z_aload_n 2 d_Tb_notedKeepers_5 rfl rfl ?_
      refine z_get zc_Tb 0 (by decide) qF_Tb_10 hG_Tb rfl d_Tb_notedKeepers_6 ?_
      refine z_callV0 (m_AL_size hs0 hst hT.kl) ym_AL_size qM_Tb_68 qI_AL_size qV_AL_AL_size zc_AL hT.kl d_Tb_notedKeepers_9 rfl (Nat.le_of_ble_eq_true rfl) ⟨Nat.zero_le _, Nat.zero_le _⟩ ⟨Nat.le_of_ble_eq_true rfl, Nat.le_of_ble_eq_true rfl⟩ ?_
      refine z_icmp_ge 41 d_Tb_notedKeepers_12 (by decide) (fun c_12 => ?_) (fun c_12 => ?_)
      · skip
        refine z_iload_n 1 d_Tb_notedKeepers_41 rfl rfl ?_
        exact z_iret rfl (⟨⟨_, rfl⟩, rfl⟩) (by first | decide | omega) (by first | decide | omega) d_Tb_notedKeepers_42
      · skip
        have hi6 : i < nk := Nat.lt_of_not_le fun q => c_12 (nI_le q (by omega))
        refine z_aload_n 2 d_Tb_notedKeepers_15 rfl rfl ?_
        refine z_get zc_Tb 0 (by decide) qF_Tb_10 hG_Tb rfl d_Tb_notedKeepers_16 ?_
        refine z_iload_n 0 d_Tb_notedKeepers_19 rfl rfl ?_
        refine z_callV0 (m_AL_get hs0 hst (hT.kA hi6) hi6 (if_pos hi6)) ym_AL_get qM_Tb_166 qI_AL_get qV_AL_AL_get zc_AL (hT.kA hi6).1 d_Tb_notedKeepers_20 rfl (Nat.le_of_ble_eq_true rfl) ⟨Nat.zero_le _, Nat.zero_le _⟩ ⟨Nat.le_of_ble_eq_true rfl, Nat.le_of_ble_eq_true rfl⟩ ?_
        refine z_castS zc_Ke qK_Tb_77 (hT.ke hi6) d_Tb_notedKeepers_23 ?_
        refine z_get zc_Ke 5 (by decide) qF_Tb_348 (hT.ke hi6) rfl d_Tb_notedKeepers_26 ?_
        refine z_if_eq 35 d_Tb_notedKeepers_29 (by decide) (fun c_29 => ?_) (fun c_29 => ?_)
        · skip
          refine z_iinc (v := nI (i + 1)) (L' := [(2, _), (1, _), (0, _)]) 0 d_Tb_notedKeepers_35 rfl (nI_1 i) (by decide) rfl ?_
          refine z_goto 4 d_Tb_notedKeepers_38 (by decide) ?_
          exact ih_4 (i + 1) _ (by omega) (by omega)
        · skip
          refine z_iinc (L' := [(1, _), (2, _), (0, _)]) 1 d_Tb_notedKeepers_32 rfl rfl (by decide) rfl ?_
          refine z_iinc (v := nI (i + 1)) (L' := [(2, _), (1, _), (0, _)]) 1 d_Tb_notedKeepers_35 rfl (nI_1 i) (by decide) rfl ?_
          refine z_goto 4 d_Tb_notedKeepers_38 (by decide) ?_
          exact ih_4 (i + 1) _ (by omega) (by omega)
  exact key_4 (nk + 1) 0 _ (by omega) (by omega)
theorem d_Tb_isAnyLying_0 : decode c_Tb_isAnyLying 0 = .ok (.iconst 0, 1) := by decide +kernel
theorem d_Tb_isAnyLying_1 : decode c_Tb_isAnyLying 1 = .ok (.istore_n 2, 1) := by decide +kernel
theorem d_Tb_isAnyLying_2 : decode c_Tb_isAnyLying 2 = .ok (.iload_n 2, 1) := by decide +kernel
theorem d_Tb_isAnyLying_3 : decode c_Tb_isAnyLying 3 = .ok (.aload_n 0, 1) := by decide +kernel
theorem d_Tb_isAnyLying_4 : decode c_Tb_isAnyLying 4 = .ok (.getfield 10, 3) := by decide +kernel
theorem d_Tb_isAnyLying_7 : decode c_Tb_isAnyLying 7 = .ok (.invokevirtual 68, 3) := by decide +kernel
theorem d_Tb_isAnyLying_10 : decode c_Tb_isAnyLying 10 = .ok (.if_icmp .ge 36, 3) := by decide +kernel
theorem d_Tb_isAnyLying_13 : decode c_Tb_isAnyLying 13 = .ok (.iload_n 1, 1) := by decide +kernel
theorem d_Tb_isAnyLying_14 : decode c_Tb_isAnyLying 14 = .ok (.iload_n 2, 1) := by decide +kernel
theorem d_Tb_isAnyLying_15 : decode c_Tb_isAnyLying 15 = .ok (.invokestatic 124, 3) := by decide +kernel
theorem d_Tb_isAnyLying_18 : decode c_Tb_isAnyLying 18 = .ok (.ifCond .eq 22, 3) := by decide +kernel
theorem d_Tb_isAnyLying_21 : decode c_Tb_isAnyLying 21 = .ok (.aload_n 0, 1) := by decide +kernel
theorem d_Tb_isAnyLying_22 : decode c_Tb_isAnyLying 22 = .ok (.getfield 10, 3) := by decide +kernel
theorem d_Tb_isAnyLying_25 : decode c_Tb_isAnyLying 25 = .ok (.iload_n 2, 1) := by decide +kernel
theorem d_Tb_isAnyLying_26 : decode c_Tb_isAnyLying 26 = .ok (.invokevirtual 166, 3) := by decide +kernel
theorem d_Tb_isAnyLying_29 : decode c_Tb_isAnyLying 29 = .ok (.checkcast 77, 3) := by decide +kernel
theorem d_Tb_isAnyLying_32 : decode c_Tb_isAnyLying 32 = .ok (.getfield 96, 3) := by decide +kernel
theorem d_Tb_isAnyLying_35 : decode c_Tb_isAnyLying 35 = .ok (.ifCond .eq 5, 3) := by decide +kernel
theorem d_Tb_isAnyLying_38 : decode c_Tb_isAnyLying 38 = .ok (.iconst 1, 1) := by decide +kernel
theorem d_Tb_isAnyLying_39 : decode c_Tb_isAnyLying 39 = .ok (.ireturn, 1) := by decide +kernel
theorem d_Tb_isAnyLying_40 : decode c_Tb_isAnyLying 40 = .ok (.iinc 2 1, 3) := by decide +kernel
theorem d_Tb_isAnyLying_43 : decode c_Tb_isAnyLying 43 = .ok (.goto (-41), 3) := by decide +kernel
theorem d_Tb_isAnyLying_46 : decode c_Tb_isAnyLying 46 = .ok (.iconst 0, 1) := by decide +kernel
theorem d_Tb_isAnyLying_47 : decode c_Tb_isAnyLying 47 = .ok (.ireturn, 1) := by decide +kernel
set_option maxHeartbeats 4000000 in
set_option maxRecDepth 100000 in
theorem m_Tb_isAnyLying {g0 : State} {d : zD} {l : Launch} {a0 : Array Value} (hs0 : zS0 d a0 g0) (hst : l.stackTraces = false) {G : zG} {A : Nat → Nat} {D : Nat → UInt64} {V : Nat → Nat → Int32} {nk ns : Nat} (hT : zT d A D V nk ns G) (set : Int32) : zMet g0 d l y_Tb_isAnyLying c_Tb_isAnyLying 3 ((Option.some Jvm.ClassFile.FieldType.boolean)) 11 0 0 [.ref (A 0), .int set] (G) (zB1 G) (zNo) := by
  have hG_Tb := hT.tb
  have hnk : nk ≤ 8 := hT.2.1
  have hns : ns ≤ 6 := hT.2.2.1
  refine z_entry hs0 hst (by decide) (Nat.le_of_ble_eq_true rfl) (fun p e s m args below meth c => ?_)
  refine z_iconst (v := (nI 0)) d_Tb_isAnyLying_0 (by decide) ?_
  refine z_istore_n (L' := [(2, _), (0, _), (1, _)]) d_Tb_isAnyLying_1 rfl (by decide) rfl ?_
  have key_2 : ∀ (n : Nat) (i : Nat) , nk - i < n → (i ≤ nk) → Z g0 d y_Tb_isAnyLying c_Tb_isAnyLying 3 ((Option.some Jvm.ClassFile.FieldType.boolean)) [] p l e (zR 11 0 0) s m args below meth c (vx_MQ below (zQc g0 d (zB1 G)) (zXc g0 d (zNo)) args s 0 0 (zA g0)) 0 0 (G) [(2, .int (nI i)), (0, .ref (A 0)), (1, .int set)] [] 2 := by
    intro n
    induction n with
    | zero => intro i  h0; exact absurd h0 (Nat.not_lt_zero _)
    | succ n ih_2 =>
      intro i  hm_2 hi
      refine z_iload_n 0 d_Tb_isAnyLying_2 rfl rfl ?_
      refine z_aload_n 1 d_Tb_isAnyLying_3 rfl rfl ?_
      refine z_get zc_Tb 0 (by decide) qF_Tb_10 hG_Tb rfl d_Tb_isAnyLying_4 ?_
      refine z_callV0 (m_AL_size hs0 hst hT.kl) ym_AL_size qM_Tb_68 qI_AL_size qV_AL_AL_size zc_AL hT.kl d_Tb_isAnyLying_7 rfl (Nat.le_of_ble_eq_true rfl) ⟨Nat.zero_le _, Nat.zero_le _⟩ ⟨Nat.le_of_ble_eq_true rfl, Nat.le_of_ble_eq_true rfl⟩ ?_
      refine z_icmp_ge 46 d_Tb_isAnyLying_10 (by decide) (fun c_10 => ?_) (fun c_10 => ?_)
      · skip
        refine z_iconst (v := 0) d_Tb_isAnyLying_46 (by decide) ?_
        exact z_zret rfl (by first | rfl | exact zb_nar _) (by first | exact ⟨⟨true, rfl⟩, rfl⟩ | exact ⟨⟨false, rfl⟩, rfl⟩ | exact ⟨⟨_, rfl⟩, rfl⟩) (by first | decide | omega) (by first | decide | omega) d_Tb_isAnyLying_47
      · skip
        have hi6 : i < nk := Nat.lt_of_not_le fun q => c_10 (nI_le q (by omega))
        refine z_iload_n 2 d_Tb_isAnyLying_13 rfl rfl ?_
        refine z_iload_n 0 d_Tb_isAnyLying_14 rfl rfl ?_
        refine z_callS0 (m_Tb_isIn hs0 hst set (nI i)) ym_Tb_isIn qM_Tb_124 qS_Tb_isIn d_Tb_isAnyLying_15 rfl (Nat.le_of_ble_eq_true rfl) ⟨Nat.zero_le _, Nat.zero_le _⟩ ⟨Nat.le_of_ble_eq_true rfl, Nat.le_of_ble_eq_true rfl⟩ ?_
        refine z_if_eq 40 d_Tb_isAnyLying_18 (by decide) (fun c_18 => ?_) (fun c_18 => ?_)
        · skip
          refine z_iinc (v := nI (i + 1)) (L' := [(2, _), (0, _), (1, _)]) 0 d_Tb_isAnyLying_40 rfl (nI_1 i) (by decide) rfl ?_
          refine z_goto 2 d_Tb_isAnyLying_43 (by decide) ?_
          exact ih_2 (i + 1) (by omega) (by omega)
        · skip
          refine z_aload_n 1 d_Tb_isAnyLying_21 rfl rfl ?_
          refine z_get zc_Tb 0 (by decide) qF_Tb_10 hG_Tb rfl d_Tb_isAnyLying_22 ?_
          refine z_iload_n 0 d_Tb_isAnyLying_25 rfl rfl ?_
          refine z_callV0 (m_AL_get hs0 hst (hT.kA hi6) hi6 (if_pos hi6)) ym_AL_get qM_Tb_166 qI_AL_get qV_AL_AL_get zc_AL (hT.kA hi6).1 d_Tb_isAnyLying_26 rfl (Nat.le_of_ble_eq_true rfl) ⟨Nat.zero_le _, Nat.zero_le _⟩ ⟨Nat.le_of_ble_eq_true rfl, Nat.le_of_ble_eq_true rfl⟩ ?_
          refine z_castS zc_Ke qK_Tb_77 (hT.ke hi6) d_Tb_isAnyLying_29 ?_
          refine z_get zc_Ke 4 (by decide) qF_Tb_96 (hT.ke hi6) rfl d_Tb_isAnyLying_32 ?_
          refine z_if_eq 40 d_Tb_isAnyLying_35 (by decide) (fun c_35 => ?_) (fun c_35 => ?_)
          · skip
            refine z_iinc (v := nI (i + 1)) (L' := [(2, _), (0, _), (1, _)]) 0 d_Tb_isAnyLying_40 rfl (nI_1 i) (by decide) rfl ?_
            refine z_goto 2 d_Tb_isAnyLying_43 (by decide) ?_
            exact ih_2 (i + 1) (by omega) (by omega)
          · skip
            refine z_iconst (v := 1) d_Tb_isAnyLying_38 (by decide) ?_
            exact z_zret rfl (by first | rfl | exact zb_nar _) (by first | exact ⟨⟨true, rfl⟩, rfl⟩ | exact ⟨⟨false, rfl⟩, rfl⟩ | exact ⟨⟨_, rfl⟩, rfl⟩) (by first | decide | omega) (by first | decide | omega) d_Tb_isAnyLying_39
  exact key_2 (nk + 1) 0 (by omega) (by omega)
theorem d_Tb_zonesOf_0 : decode c_Tb_zonesOf 0 = .ok (.iconst 0, 1) := by decide +kernel
theorem d_Tb_zonesOf_1 : decode c_Tb_zonesOf 1 = .ok (.istore_n 2, 1) := by decide +kernel
theorem d_Tb_zonesOf_2 : decode c_Tb_zonesOf 2 = .ok (.iconst 0, 1) := by decide +kernel
theorem d_Tb_zonesOf_3 : decode c_Tb_zonesOf 3 = .ok (.istore_n 3, 1) := by decide +kernel
theorem d_Tb_zonesOf_4 : decode c_Tb_zonesOf 4 = .ok (.iload_n 3, 1) := by decide +kernel
theorem d_Tb_zonesOf_5 : decode c_Tb_zonesOf 5 = .ok (.aload_n 0, 1) := by decide +kernel
theorem d_Tb_zonesOf_6 : decode c_Tb_zonesOf 6 = .ok (.getfield 10, 3) := by decide +kernel
theorem d_Tb_zonesOf_9 : decode c_Tb_zonesOf 9 = .ok (.invokevirtual 68, 3) := by decide +kernel
theorem d_Tb_zonesOf_12 : decode c_Tb_zonesOf 12 = .ok (.if_icmp .ge 36, 3) := by decide +kernel
theorem d_Tb_zonesOf_15 : decode c_Tb_zonesOf 15 = .ok (.iload_n 1, 1) := by decide +kernel
theorem d_Tb_zonesOf_16 : decode c_Tb_zonesOf 16 = .ok (.iload_n 3, 1) := by decide +kernel
theorem d_Tb_zonesOf_17 : decode c_Tb_zonesOf 17 = .ok (.invokestatic 124, 3) := by decide +kernel
theorem d_Tb_zonesOf_20 : decode c_Tb_zonesOf 20 = .ok (.ifCond .eq 22, 3) := by decide +kernel
theorem d_Tb_zonesOf_23 : decode c_Tb_zonesOf 23 = .ok (.iload_n 2, 1) := by decide +kernel
theorem d_Tb_zonesOf_24 : decode c_Tb_zonesOf 24 = .ok (.iconst 1, 1) := by decide +kernel
theorem d_Tb_zonesOf_25 : decode c_Tb_zonesOf 25 = .ok (.aload_n 0, 1) := by decide +kernel
theorem d_Tb_zonesOf_26 : decode c_Tb_zonesOf 26 = .ok (.getfield 10, 3) := by decide +kernel
theorem d_Tb_zonesOf_29 : decode c_Tb_zonesOf 29 = .ok (.iload_n 3, 1) := by decide +kernel
theorem d_Tb_zonesOf_30 : decode c_Tb_zonesOf 30 = .ok (.invokevirtual 166, 3) := by decide +kernel
theorem d_Tb_zonesOf_33 : decode c_Tb_zonesOf 33 = .ok (.checkcast 77, 3) := by decide +kernel
theorem d_Tb_zonesOf_36 : decode c_Tb_zonesOf 36 = .ok (.getfield 170, 3) := by decide +kernel
theorem d_Tb_zonesOf_39 : decode c_Tb_zonesOf 39 = .ok (.ishl, 1) := by decide +kernel
theorem d_Tb_zonesOf_40 : decode c_Tb_zonesOf 40 = .ok (.ior, 1) := by decide +kernel
theorem d_Tb_zonesOf_41 : decode c_Tb_zonesOf 41 = .ok (.istore_n 2, 1) := by decide +kernel
theorem d_Tb_zonesOf_42 : decode c_Tb_zonesOf 42 = .ok (.iinc 3 1, 3) := by decide +kernel
theorem d_Tb_zonesOf_45 : decode c_Tb_zonesOf 45 = .ok (.goto (-41), 3) := by decide +kernel
theorem d_Tb_zonesOf_48 : decode c_Tb_zonesOf 48 = .ok (.iload_n 2, 1) := by decide +kernel
theorem d_Tb_zonesOf_49 : decode c_Tb_zonesOf 49 = .ok (.invokestatic 105, 3) := by decide +kernel
theorem d_Tb_zonesOf_52 : decode c_Tb_zonesOf 52 = .ok (.ireturn, 1) := by decide +kernel
set_option maxHeartbeats 4000000 in
set_option maxRecDepth 100000 in
theorem m_Tb_zonesOf {g0 : State} {d : zD} {l : Launch} {a0 : Array Value} (hs0 : zS0 d a0 g0) (hst : l.stackTraces = false) {G : zG} {A : Nat → Nat} {D : Nat → UInt64} {V : Nat → Nat → Int32} {nk ns : Nat} (hT : zT d A D V nk ns G) (set : Int32) : zMet g0 d l y_Tb_zonesOf c_Tb_zonesOf 4 ((Option.some Jvm.ClassFile.FieldType.int)) 11 0 0 [.ref (A 0), .int set] (G) (zI1 G) (zNo) := by
  have hG_Tb := hT.tb
  have hnk : nk ≤ 8 := hT.2.1
  have hns : ns ≤ 6 := hT.2.2.1
  refine z_entry hs0 hst (by decide) (Nat.le_of_ble_eq_true rfl) (fun p e s m args below meth c => ?_)
  refine z_iconst (v := 0) d_Tb_zonesOf_0 (by decide) ?_
  refine z_istore_n (L' := [(2, _), (0, _), (1, _)]) d_Tb_zonesOf_1 rfl (by decide) rfl ?_
  refine z_iconst (v := (nI 0)) d_Tb_zonesOf_2 (by decide) ?_
  refine z_istore_n (L' := [(3, _), (2, _), (0, _), (1, _)]) d_Tb_zonesOf_3 rfl (by decide) rfl ?_
  have key_4 : ∀ (n : Nat) (i : Nat) (v : Int32), nk - i < n → (i ≤ nk) → Z g0 d y_Tb_zonesOf c_Tb_zonesOf 4 ((Option.some Jvm.ClassFile.FieldType.int)) [] p l e (zR 11 0 0) s m args below meth c (vx_MQ below (zQc g0 d (zI1 G)) (zXc g0 d (zNo)) args s 0 0 (zA g0)) 0 0 (G) [(3, .int (nI i)), (2, .int v), (0, .ref (A 0)), (1, .int set)] [] 4 := by
    intro n
    induction n with
    | zero => intro i v h0; exact absurd h0 (Nat.not_lt_zero _)
    | succ n ih_4 =>
      intro i v hm_4 hi
      refine z_iload_n 0 d_Tb_zonesOf_4 rfl rfl ?_
      refine z_aload_n 2 d_Tb_zonesOf_5 rfl rfl ?_
      refine z_get zc_Tb 0 (by decide) qF_Tb_10 hG_Tb rfl d_Tb_zonesOf_6 ?_
      refine z_callV0 (m_AL_size hs0 hst hT.kl) ym_AL_size qM_Tb_68 qI_AL_size qV_AL_AL_size zc_AL hT.kl d_Tb_zonesOf_9 rfl (Nat.le_of_ble_eq_true rfl) ⟨Nat.zero_le _, Nat.zero_le _⟩ ⟨Nat.le_of_ble_eq_true rfl, Nat.le_of_ble_eq_true rfl⟩ ?_
      refine z_icmp_ge 48 d_Tb_zonesOf_12 (by decide) (fun c_12 => ?_) (fun c_12 => ?_)
      · skip
        refine z_iload_n 1 d_Tb_zonesOf_48 rfl rfl ?_
        refine z_callS0 (m_In_bitCount hs0 hst v) ym_In_bitCount qM_Tb_105 qS_In_bitCount d_Tb_zonesOf_49 rfl (Nat.le_of_ble_eq_true rfl) ⟨Nat.zero_le _, Nat.zero_le _⟩ ⟨Nat.le_of_ble_eq_true rfl, Nat.le_of_ble_eq_true rfl⟩ ?_
        exact z_iret rfl (⟨⟨_, rfl⟩, rfl⟩) (by first | decide | omega) (by first | decide | omega) d_Tb_zonesOf_52
      · skip
        have hi6 : i < nk := Nat.lt_of_not_le fun q => c_12 (nI_le q (by omega))
        refine z_iload_n 3 d_Tb_zonesOf_15 rfl rfl ?_
        refine z_iload_n 0 d_Tb_zonesOf_16 rfl rfl ?_
        refine z_callS0 (m_Tb_isIn hs0 hst set (nI i)) ym_Tb_isIn qM_Tb_124 qS_Tb_isIn d_Tb_zonesOf_17 rfl (Nat.le_of_ble_eq_true rfl) ⟨Nat.zero_le _, Nat.zero_le _⟩ ⟨Nat.le_of_ble_eq_true rfl, Nat.le_of_ble_eq_true rfl⟩ ?_
        refine z_if_eq 42 d_Tb_zonesOf_20 (by decide) (fun c_20 => ?_) (fun c_20 => ?_)
        · skip
          refine z_iinc (v := nI (i + 1)) (L' := [(3, _), (2, _), (0, _), (1, _)]) 0 d_Tb_zonesOf_42 rfl (nI_1 i) (by decide) rfl ?_
          refine z_goto 4 d_Tb_zonesOf_45 (by decide) ?_
          exact ih_4 (i + 1) _ (by omega) (by omega)
        · skip
          refine z_iload_n 1 d_Tb_zonesOf_23 rfl rfl ?_
          refine z_iconst (v := 1) d_Tb_zonesOf_24 (by decide) ?_
          refine z_aload_n 2 d_Tb_zonesOf_25 rfl rfl ?_
          refine z_get zc_Tb 0 (by decide) qF_Tb_10 hG_Tb rfl d_Tb_zonesOf_26 ?_
          refine z_iload_n 0 d_Tb_zonesOf_29 rfl rfl ?_
          refine z_callV0 (m_AL_get hs0 hst (hT.kA hi6) hi6 (if_pos hi6)) ym_AL_get qM_Tb_166 qI_AL_get qV_AL_AL_get zc_AL (hT.kA hi6).1 d_Tb_zonesOf_30 rfl (Nat.le_of_ble_eq_true rfl) ⟨Nat.zero_le _, Nat.zero_le _⟩ ⟨Nat.le_of_ble_eq_true rfl, Nat.le_of_ble_eq_true rfl⟩ ?_
          refine z_castS zc_Ke qK_Tb_77 (hT.ke hi6) d_Tb_zonesOf_33 ?_
          refine z_get zc_Ke 1 (by decide) qF_Tb_170 (hT.ke hi6) rfl d_Tb_zonesOf_36 ?_
          refine z_ishl d_Tb_zonesOf_39 ?_
          refine z_ior d_Tb_zonesOf_40 ?_
          refine z_istore_n (L' := [(2, _), (3, _), (0, _), (1, _)]) d_Tb_zonesOf_41 rfl (by decide) rfl ?_
          refine z_iinc (v := nI (i + 1)) (L' := [(3, _), (2, _), (0, _), (1, _)]) 1 d_Tb_zonesOf_42 rfl (nI_1 i) (by decide) rfl ?_
          refine z_goto 4 d_Tb_zonesOf_45 (by decide) ?_
          exact ih_4 (i + 1) _ (by omega) (by omega)
  exact key_4 (nk + 1) 0 _ (by omega) (by omega)
theorem d_Tb_priceOf_0 : decode c_Tb_priceOf 0 = .ok (.iconst 0, 1) := by decide +kernel
theorem d_Tb_priceOf_1 : decode c_Tb_priceOf 1 = .ok (.istore_n 2, 1) := by decide +kernel
theorem d_Tb_priceOf_2 : decode c_Tb_priceOf 2 = .ok (.iconst 0, 1) := by decide +kernel
theorem d_Tb_priceOf_3 : decode c_Tb_priceOf 3 = .ok (.istore_n 3, 1) := by decide +kernel
theorem d_Tb_priceOf_4 : decode c_Tb_priceOf 4 = .ok (.iload_n 3, 1) := by decide +kernel
theorem d_Tb_priceOf_5 : decode c_Tb_priceOf 5 = .ok (.aload_n 0, 1) := by decide +kernel
theorem d_Tb_priceOf_6 : decode c_Tb_priceOf 6 = .ok (.getfield 10, 3) := by decide +kernel
theorem d_Tb_priceOf_9 : decode c_Tb_priceOf 9 = .ok (.invokevirtual 68, 3) := by decide +kernel
theorem d_Tb_priceOf_12 : decode c_Tb_priceOf 12 = .ok (.if_icmp .ge 34, 3) := by decide +kernel
theorem d_Tb_priceOf_15 : decode c_Tb_priceOf 15 = .ok (.iload_n 1, 1) := by decide +kernel
theorem d_Tb_priceOf_16 : decode c_Tb_priceOf 16 = .ok (.iload_n 3, 1) := by decide +kernel
theorem d_Tb_priceOf_17 : decode c_Tb_priceOf 17 = .ok (.invokestatic 124, 3) := by decide +kernel
theorem d_Tb_priceOf_20 : decode c_Tb_priceOf 20 = .ok (.ifCond .eq 20, 3) := by decide +kernel
theorem d_Tb_priceOf_23 : decode c_Tb_priceOf 23 = .ok (.iload_n 2, 1) := by decide +kernel
theorem d_Tb_priceOf_24 : decode c_Tb_priceOf 24 = .ok (.aload_n 0, 1) := by decide +kernel
theorem d_Tb_priceOf_25 : decode c_Tb_priceOf 25 = .ok (.getfield 10, 3) := by decide +kernel
theorem d_Tb_priceOf_28 : decode c_Tb_priceOf 28 = .ok (.iload_n 3, 1) := by decide +kernel
theorem d_Tb_priceOf_29 : decode c_Tb_priceOf 29 = .ok (.invokevirtual 166, 3) := by decide +kernel
theorem d_Tb_priceOf_32 : decode c_Tb_priceOf 32 = .ok (.checkcast 77, 3) := by decide +kernel
theorem d_Tb_priceOf_35 : decode c_Tb_priceOf 35 = .ok (.getfield 363, 3) := by decide +kernel
theorem d_Tb_priceOf_38 : decode c_Tb_priceOf 38 = .ok (.iadd, 1) := by decide +kernel
theorem d_Tb_priceOf_39 : decode c_Tb_priceOf 39 = .ok (.istore_n 2, 1) := by decide +kernel
theorem d_Tb_priceOf_40 : decode c_Tb_priceOf 40 = .ok (.iinc 3 1, 3) := by decide +kernel
theorem d_Tb_priceOf_43 : decode c_Tb_priceOf 43 = .ok (.goto (-39), 3) := by decide +kernel
theorem d_Tb_priceOf_46 : decode c_Tb_priceOf 46 = .ok (.iload_n 2, 1) := by decide +kernel
theorem d_Tb_priceOf_47 : decode c_Tb_priceOf 47 = .ok (.ireturn, 1) := by decide +kernel
set_option maxHeartbeats 4000000 in
set_option maxRecDepth 100000 in
theorem m_Tb_priceOf {g0 : State} {d : zD} {l : Launch} {a0 : Array Value} (hs0 : zS0 d a0 g0) (hst : l.stackTraces = false) {G : zG} {A : Nat → Nat} {D : Nat → UInt64} {V : Nat → Nat → Int32} {nk ns : Nat} (hT : zT d A D V nk ns G) (set : Int32) : zMet g0 d l y_Tb_priceOf c_Tb_priceOf 4 ((Option.some Jvm.ClassFile.FieldType.int)) 11 0 0 [.ref (A 0), .int set] (G) (zI1 G) (zNo) := by
  have hG_Tb := hT.tb
  have hnk : nk ≤ 8 := hT.2.1
  have hns : ns ≤ 6 := hT.2.2.1
  refine z_entry hs0 hst (by decide) (Nat.le_of_ble_eq_true rfl) (fun p e s m args below meth c => ?_)
  refine z_iconst (v := 0) d_Tb_priceOf_0 (by decide) ?_
  refine z_istore_n (L' := [(2, _), (0, _), (1, _)]) d_Tb_priceOf_1 rfl (by decide) rfl ?_
  refine z_iconst (v := (nI 0)) d_Tb_priceOf_2 (by decide) ?_
  refine z_istore_n (L' := [(3, _), (2, _), (0, _), (1, _)]) d_Tb_priceOf_3 rfl (by decide) rfl ?_
  have key_4 : ∀ (n : Nat) (i : Nat) (v : Int32), nk - i < n → (i ≤ nk) → Z g0 d y_Tb_priceOf c_Tb_priceOf 4 ((Option.some Jvm.ClassFile.FieldType.int)) [] p l e (zR 11 0 0) s m args below meth c (vx_MQ below (zQc g0 d (zI1 G)) (zXc g0 d (zNo)) args s 0 0 (zA g0)) 0 0 (G) [(3, .int (nI i)), (2, .int v), (0, .ref (A 0)), (1, .int set)] [] 4 := by
    intro n
    induction n with
    | zero => intro i v h0; exact absurd h0 (Nat.not_lt_zero _)
    | succ n ih_4 =>
      intro i v hm_4 hi
      refine z_iload_n 0 d_Tb_priceOf_4 rfl rfl ?_
      refine z_aload_n 2 d_Tb_priceOf_5 rfl rfl ?_
      refine z_get zc_Tb 0 (by decide) qF_Tb_10 hG_Tb rfl d_Tb_priceOf_6 ?_
      refine z_callV0 (m_AL_size hs0 hst hT.kl) ym_AL_size qM_Tb_68 qI_AL_size qV_AL_AL_size zc_AL hT.kl d_Tb_priceOf_9 rfl (Nat.le_of_ble_eq_true rfl) ⟨Nat.zero_le _, Nat.zero_le _⟩ ⟨Nat.le_of_ble_eq_true rfl, Nat.le_of_ble_eq_true rfl⟩ ?_
      refine z_icmp_ge 46 d_Tb_priceOf_12 (by decide) (fun c_12 => ?_) (fun c_12 => ?_)
      · skip
        refine z_iload_n 1 d_Tb_priceOf_46 rfl rfl ?_
        exact z_iret rfl (⟨⟨_, rfl⟩, rfl⟩) (by first | decide | omega) (by first | decide | omega) d_Tb_priceOf_47
      · skip
        have hi6 : i < nk := Nat.lt_of_not_le fun q => c_12 (nI_le q (by omega))
        refine z_iload_n 3 d_Tb_priceOf_15 rfl rfl ?_
        refine z_iload_n 0 d_Tb_priceOf_16 rfl rfl ?_
        refine z_callS0 (m_Tb_isIn hs0 hst set (nI i)) ym_Tb_isIn qM_Tb_124 qS_Tb_isIn d_Tb_priceOf_17 rfl (Nat.le_of_ble_eq_true rfl) ⟨Nat.zero_le _, Nat.zero_le _⟩ ⟨Nat.le_of_ble_eq_true rfl, Nat.le_of_ble_eq_true rfl⟩ ?_
        refine z_if_eq 40 d_Tb_priceOf_20 (by decide) (fun c_20 => ?_) (fun c_20 => ?_)
        · skip
          refine z_iinc (v := nI (i + 1)) (L' := [(3, _), (2, _), (0, _), (1, _)]) 0 d_Tb_priceOf_40 rfl (nI_1 i) (by decide) rfl ?_
          refine z_goto 4 d_Tb_priceOf_43 (by decide) ?_
          exact ih_4 (i + 1) _ (by omega) (by omega)
        · skip
          refine z_iload_n 1 d_Tb_priceOf_23 rfl rfl ?_
          refine z_aload_n 2 d_Tb_priceOf_24 rfl rfl ?_
          refine z_get zc_Tb 0 (by decide) qF_Tb_10 hG_Tb rfl d_Tb_priceOf_25 ?_
          refine z_iload_n 0 d_Tb_priceOf_28 rfl rfl ?_
          refine z_callV0 (m_AL_get hs0 hst (hT.kA hi6) hi6 (if_pos hi6)) ym_AL_get qM_Tb_166 qI_AL_get qV_AL_AL_get zc_AL (hT.kA hi6).1 d_Tb_priceOf_29 rfl (Nat.le_of_ble_eq_true rfl) ⟨Nat.zero_le _, Nat.zero_le _⟩ ⟨Nat.le_of_ble_eq_true rfl, Nat.le_of_ble_eq_true rfl⟩ ?_
          refine z_castS zc_Ke qK_Tb_77 (hT.ke hi6) d_Tb_priceOf_32 ?_
          refine z_get zc_Ke 2 (by decide) qF_Tb_363 (hT.ke hi6) rfl d_Tb_priceOf_35 ?_
          refine z_iadd d_Tb_priceOf_38 ?_
          refine z_istore_n (L' := [(2, _), (3, _), (0, _), (1, _)]) d_Tb_priceOf_39 rfl (by decide) rfl ?_
          refine z_iinc (v := nI (i + 1)) (L' := [(3, _), (2, _), (0, _), (1, _)]) 1 d_Tb_priceOf_40 rfl (nI_1 i) (by decide) rfl ?_
          refine z_goto 4 d_Tb_priceOf_43 (by decide) ?_
          exact ih_4 (i + 1) _ (by omega) (by omega)
  exact key_4 (nk + 1) 0 _ (by omega) (by omega)
theorem d_Tb_currentShares_0 : decode c_Tb_currentShares 0 = .ok (.iconst 0, 1) := by decide +kernel
theorem d_Tb_currentShares_1 : decode c_Tb_currentShares 1 = .ok (.istore_n 1, 1) := by decide +kernel
theorem d_Tb_currentShares_2 : decode c_Tb_currentShares 2 = .ok (.iconst 0, 1) := by decide +kernel
theorem d_Tb_currentShares_3 : decode c_Tb_currentShares 3 = .ok (.istore_n 2, 1) := by decide +kernel
theorem d_Tb_currentShares_4 : decode c_Tb_currentShares 4 = .ok (.iload_n 2, 1) := by decide +kernel
theorem d_Tb_currentShares_5 : decode c_Tb_currentShares 5 = .ok (.aload_n 0, 1) := by decide +kernel
theorem d_Tb_currentShares_6 : decode c_Tb_currentShares 6 = .ok (.getfield 16, 3) := by decide +kernel
theorem d_Tb_currentShares_9 : decode c_Tb_currentShares 9 = .ok (.invokevirtual 68, 3) := by decide +kernel
theorem d_Tb_currentShares_12 : decode c_Tb_currentShares 12 = .ok (.if_icmp .ge 29, 3) := by decide +kernel
theorem d_Tb_currentShares_15 : decode c_Tb_currentShares 15 = .ok (.iload_n 1, 1) := by decide +kernel
theorem d_Tb_currentShares_16 : decode c_Tb_currentShares 16 = .ok (.aload_n 0, 1) := by decide +kernel
theorem d_Tb_currentShares_17 : decode c_Tb_currentShares 17 = .ok (.getfield 16, 3) := by decide +kernel
theorem d_Tb_currentShares_20 : decode c_Tb_currentShares 20 = .ok (.iload_n 2, 1) := by decide +kernel
theorem d_Tb_currentShares_21 : decode c_Tb_currentShares 21 = .ok (.invokevirtual 166, 3) := by decide +kernel
theorem d_Tb_currentShares_24 : decode c_Tb_currentShares 24 = .ok (.checkcast 115, 3) := by decide +kernel
theorem d_Tb_currentShares_27 : decode c_Tb_currentShares 27 = .ok (.invokevirtual 144, 3) := by decide +kernel
theorem d_Tb_currentShares_30 : decode c_Tb_currentShares 30 = .ok (.invokestatic 105, 3) := by decide +kernel
theorem d_Tb_currentShares_33 : decode c_Tb_currentShares 33 = .ok (.iadd, 1) := by decide +kernel
theorem d_Tb_currentShares_34 : decode c_Tb_currentShares 34 = .ok (.istore_n 1, 1) := by decide +kernel
theorem d_Tb_currentShares_35 : decode c_Tb_currentShares 35 = .ok (.iinc 2 1, 3) := by decide +kernel
theorem d_Tb_currentShares_38 : decode c_Tb_currentShares 38 = .ok (.goto (-34), 3) := by decide +kernel
theorem d_Tb_currentShares_41 : decode c_Tb_currentShares 41 = .ok (.iload_n 1, 1) := by decide +kernel
theorem d_Tb_currentShares_42 : decode c_Tb_currentShares 42 = .ok (.ireturn, 1) := by decide +kernel
set_option maxHeartbeats 4000000 in
set_option maxRecDepth 100000 in
theorem m_Tb_currentShares {g0 : State} {d : zD} {l : Launch} {a0 : Array Value} (hs0 : zS0 d a0 g0) (hst : l.stackTraces = false) {G : zG} {A : Nat → Nat} {D : Nat → UInt64} {V : Nat → Nat → Int32} {nk ns : Nat} (hT : zT d A D V nk ns G) : zMet g0 d l y_Tb_currentShares c_Tb_currentShares 3 ((Option.some Jvm.ClassFile.FieldType.int)) 11 0 0 [.ref (A 0)] (G) (zI1 G) (zNo) := by
  have hG_Tb := hT.tb
  have hnk : nk ≤ 8 := hT.2.1
  have hns : ns ≤ 6 := hT.2.2.1
  refine z_entry hs0 hst (by decide) (Nat.le_of_ble_eq_true rfl) (fun p e s m args below meth c => ?_)
  refine z_iconst (v := 0) d_Tb_currentShares_0 (by decide) ?_
  refine z_istore_n (L' := [(1, _), (0, _)]) d_Tb_currentShares_1 rfl (by decide) rfl ?_
  refine z_iconst (v := (nI 0)) d_Tb_currentShares_2 (by decide) ?_
  refine z_istore_n (L' := [(2, _), (1, _), (0, _)]) d_Tb_currentShares_3 rfl (by decide) rfl ?_
  have key_4 : ∀ (n : Nat) (i : Nat) (v : Int32), ns - i < n → (i ≤ ns) → Z g0 d y_Tb_currentShares c_Tb_currentShares 3 ((Option.some Jvm.ClassFile.FieldType.int)) [] p l e (zR 11 0 0) s m args below meth c (vx_MQ below (zQc g0 d (zI1 G)) (zXc g0 d (zNo)) args s 0 0 (zA g0)) 0 0 (G) [(2, .int (nI i)), (1, .int v), (0, .ref (A 0))] [] 4 := by
    intro n
    induction n with
    | zero => intro i v h0; exact absurd h0 (Nat.not_lt_zero _)
    | succ n ih_4 =>
      intro i v hm_4 hi
      refine z_iload_n 0 d_Tb_currentShares_4 rfl rfl ?_
      refine z_aload_n 2 d_Tb_currentShares_5 rfl rfl ?_
      refine z_get zc_Tb 1 (by decide) qF_Tb_16 hG_Tb rfl d_Tb_currentShares_6 ?_
      refine z_callV0 (m_AL_size hs0 hst hT.sl) ym_AL_size qM_Tb_68 qI_AL_size qV_AL_AL_size zc_AL hT.sl d_Tb_currentShares_9 rfl (Nat.le_of_ble_eq_true rfl) ⟨Nat.zero_le _, Nat.zero_le _⟩ ⟨Nat.le_of_ble_eq_true rfl, Nat.le_of_ble_eq_true rfl⟩ ?_
      refine z_icmp_ge 41 d_Tb_currentShares_12 (by decide) (fun c_12 => ?_) (fun c_12 => ?_)
      · skip
        refine z_iload_n 1 d_Tb_currentShares_41 rfl rfl ?_
        exact z_iret rfl (⟨⟨_, rfl⟩, rfl⟩) (by first | decide | omega) (by first | decide | omega) d_Tb_currentShares_42
      · skip
        have hi6 : i < ns := Nat.lt_of_not_le fun q => c_12 (nI_le q (by omega))
        refine z_iload_n 1 d_Tb_currentShares_15 rfl rfl ?_
        refine z_aload_n 2 d_Tb_currentShares_16 rfl rfl ?_
        refine z_get zc_Tb 1 (by decide) qF_Tb_16 hG_Tb rfl d_Tb_currentShares_17 ?_
        refine z_iload_n 0 d_Tb_currentShares_20 rfl rfl ?_
        refine z_callV0 (m_AL_get hs0 hst (hT.sA hi6) hi6 (if_pos hi6)) ym_AL_get qM_Tb_166 qI_AL_get qV_AL_AL_get zc_AL (hT.sA hi6).1 d_Tb_currentShares_21 rfl (Nat.le_of_ble_eq_true rfl) ⟨Nat.zero_le _, Nat.zero_le _⟩ ⟨Nat.le_of_ble_eq_true rfl, Nat.le_of_ble_eq_true rfl⟩ ?_
        refine z_castS zc_Se qK_Tb_115 (hT.se hi6).1 d_Tb_currentShares_24 ?_
        refine z_callV0 (m_Se_currentSet hs0 hst (hT.se hi6)) ym_Se_currentSet qM_Tb_144 qI_Se_currentSet qV_Se_Se_currentSet zc_Se (hT.se hi6).1 d_Tb_currentShares_27 rfl (Nat.le_of_ble_eq_true rfl) ⟨Nat.zero_le _, Nat.zero_le _⟩ ⟨Nat.le_of_ble_eq_true rfl, Nat.le_of_ble_eq_true rfl⟩ ?_
        refine z_callS0 (m_In_bitCount hs0 hst _) ym_In_bitCount qM_Tb_105 qS_In_bitCount d_Tb_currentShares_30 rfl (Nat.le_of_ble_eq_true rfl) ⟨Nat.zero_le _, Nat.zero_le _⟩ ⟨Nat.le_of_ble_eq_true rfl, Nat.le_of_ble_eq_true rfl⟩ ?_
        refine z_iadd d_Tb_currentShares_33 ?_
        refine z_istore_n (L' := [(1, _), (2, _), (0, _)]) d_Tb_currentShares_34 rfl (by decide) rfl ?_
        refine z_iinc (v := nI (i + 1)) (L' := [(2, _), (1, _), (0, _)]) 1 d_Tb_currentShares_35 rfl (nI_1 i) (by decide) rfl ?_
        refine z_goto 4 d_Tb_currentShares_38 (by decide) ?_
        exact ih_4 (i + 1) _ (by omega) (by omega)
  exact key_4 (ns + 1) 0 _ (by omega) (by omega)
theorem d_Tb_staleShares_0 : decode c_Tb_staleShares 0 = .ok (.iconst 0, 1) := by decide +kernel
theorem d_Tb_staleShares_1 : decode c_Tb_staleShares 1 = .ok (.istore_n 1, 1) := by decide +kernel
theorem d_Tb_staleShares_2 : decode c_Tb_staleShares 2 = .ok (.iconst 0, 1) := by decide +kernel
theorem d_Tb_staleShares_3 : decode c_Tb_staleShares 3 = .ok (.istore_n 2, 1) := by decide +kernel
theorem d_Tb_staleShares_4 : decode c_Tb_staleShares 4 = .ok (.iload_n 2, 1) := by decide +kernel
theorem d_Tb_staleShares_5 : decode c_Tb_staleShares 5 = .ok (.aload_n 0, 1) := by decide +kernel
theorem d_Tb_staleShares_6 : decode c_Tb_staleShares 6 = .ok (.getfield 16, 3) := by decide +kernel
theorem d_Tb_staleShares_9 : decode c_Tb_staleShares 9 = .ok (.invokevirtual 68, 3) := by decide +kernel
theorem d_Tb_staleShares_12 : decode c_Tb_staleShares 12 = .ok (.if_icmp .ge 29, 3) := by decide +kernel
theorem d_Tb_staleShares_15 : decode c_Tb_staleShares 15 = .ok (.iload_n 1, 1) := by decide +kernel
theorem d_Tb_staleShares_16 : decode c_Tb_staleShares 16 = .ok (.aload_n 0, 1) := by decide +kernel
theorem d_Tb_staleShares_17 : decode c_Tb_staleShares 17 = .ok (.getfield 16, 3) := by decide +kernel
theorem d_Tb_staleShares_20 : decode c_Tb_staleShares 20 = .ok (.iload_n 2, 1) := by decide +kernel
theorem d_Tb_staleShares_21 : decode c_Tb_staleShares 21 = .ok (.invokevirtual 166, 3) := by decide +kernel
theorem d_Tb_staleShares_24 : decode c_Tb_staleShares 24 = .ok (.checkcast 115, 3) := by decide +kernel
theorem d_Tb_staleShares_27 : decode c_Tb_staleShares 27 = .ok (.invokevirtual 158, 3) := by decide +kernel
theorem d_Tb_staleShares_30 : decode c_Tb_staleShares 30 = .ok (.invokestatic 105, 3) := by decide +kernel
theorem d_Tb_staleShares_33 : decode c_Tb_staleShares 33 = .ok (.iadd, 1) := by decide +kernel
theorem d_Tb_staleShares_34 : decode c_Tb_staleShares 34 = .ok (.istore_n 1, 1) := by decide +kernel
theorem d_Tb_staleShares_35 : decode c_Tb_staleShares 35 = .ok (.iinc 2 1, 3) := by decide +kernel
theorem d_Tb_staleShares_38 : decode c_Tb_staleShares 38 = .ok (.goto (-34), 3) := by decide +kernel
theorem d_Tb_staleShares_41 : decode c_Tb_staleShares 41 = .ok (.iload_n 1, 1) := by decide +kernel
theorem d_Tb_staleShares_42 : decode c_Tb_staleShares 42 = .ok (.ireturn, 1) := by decide +kernel
set_option maxHeartbeats 4000000 in
set_option maxRecDepth 100000 in
theorem m_Tb_staleShares {g0 : State} {d : zD} {l : Launch} {a0 : Array Value} (hs0 : zS0 d a0 g0) (hst : l.stackTraces = false) {G : zG} {A : Nat → Nat} {D : Nat → UInt64} {V : Nat → Nat → Int32} {nk ns : Nat} (hT : zT d A D V nk ns G) : zMet g0 d l y_Tb_staleShares c_Tb_staleShares 3 ((Option.some Jvm.ClassFile.FieldType.int)) 11 0 0 [.ref (A 0)] (G) (zI1 G) (zNo) := by
  have hG_Tb := hT.tb
  have hnk : nk ≤ 8 := hT.2.1
  have hns : ns ≤ 6 := hT.2.2.1
  refine z_entry hs0 hst (by decide) (Nat.le_of_ble_eq_true rfl) (fun p e s m args below meth c => ?_)
  refine z_iconst (v := 0) d_Tb_staleShares_0 (by decide) ?_
  refine z_istore_n (L' := [(1, _), (0, _)]) d_Tb_staleShares_1 rfl (by decide) rfl ?_
  refine z_iconst (v := (nI 0)) d_Tb_staleShares_2 (by decide) ?_
  refine z_istore_n (L' := [(2, _), (1, _), (0, _)]) d_Tb_staleShares_3 rfl (by decide) rfl ?_
  have key_4 : ∀ (n : Nat) (i : Nat) (v : Int32), ns - i < n → (i ≤ ns) → Z g0 d y_Tb_staleShares c_Tb_staleShares 3 ((Option.some Jvm.ClassFile.FieldType.int)) [] p l e (zR 11 0 0) s m args below meth c (vx_MQ below (zQc g0 d (zI1 G)) (zXc g0 d (zNo)) args s 0 0 (zA g0)) 0 0 (G) [(2, .int (nI i)), (1, .int v), (0, .ref (A 0))] [] 4 := by
    intro n
    induction n with
    | zero => intro i v h0; exact absurd h0 (Nat.not_lt_zero _)
    | succ n ih_4 =>
      intro i v hm_4 hi
      refine z_iload_n 0 d_Tb_staleShares_4 rfl rfl ?_
      refine z_aload_n 2 d_Tb_staleShares_5 rfl rfl ?_
      refine z_get zc_Tb 1 (by decide) qF_Tb_16 hG_Tb rfl d_Tb_staleShares_6 ?_
      refine z_callV0 (m_AL_size hs0 hst hT.sl) ym_AL_size qM_Tb_68 qI_AL_size qV_AL_AL_size zc_AL hT.sl d_Tb_staleShares_9 rfl (Nat.le_of_ble_eq_true rfl) ⟨Nat.zero_le _, Nat.zero_le _⟩ ⟨Nat.le_of_ble_eq_true rfl, Nat.le_of_ble_eq_true rfl⟩ ?_
      refine z_icmp_ge 41 d_Tb_staleShares_12 (by decide) (fun c_12 => ?_) (fun c_12 => ?_)
      · skip
        refine z_iload_n 1 d_Tb_staleShares_41 rfl rfl ?_
        exact z_iret rfl (⟨⟨_, rfl⟩, rfl⟩) (by first | decide | omega) (by first | decide | omega) d_Tb_staleShares_42
      · skip
        have hi6 : i < ns := Nat.lt_of_not_le fun q => c_12 (nI_le q (by omega))
        refine z_iload_n 1 d_Tb_staleShares_15 rfl rfl ?_
        refine z_aload_n 2 d_Tb_staleShares_16 rfl rfl ?_
        refine z_get zc_Tb 1 (by decide) qF_Tb_16 hG_Tb rfl d_Tb_staleShares_17 ?_
        refine z_iload_n 0 d_Tb_staleShares_20 rfl rfl ?_
        refine z_callV0 (m_AL_get hs0 hst (hT.sA hi6) hi6 (if_pos hi6)) ym_AL_get qM_Tb_166 qI_AL_get qV_AL_AL_get zc_AL (hT.sA hi6).1 d_Tb_staleShares_21 rfl (Nat.le_of_ble_eq_true rfl) ⟨Nat.zero_le _, Nat.zero_le _⟩ ⟨Nat.le_of_ble_eq_true rfl, Nat.le_of_ble_eq_true rfl⟩ ?_
        refine z_castS zc_Se qK_Tb_115 (hT.se hi6).1 d_Tb_staleShares_24 ?_
        refine z_callV0 (m_Se_staleSet hs0 hst (hT.se hi6)) ym_Se_staleSet qM_Tb_158 qI_Se_staleSet qV_Se_Se_staleSet zc_Se (hT.se hi6).1 d_Tb_staleShares_27 rfl (Nat.le_of_ble_eq_true rfl) ⟨Nat.zero_le _, Nat.zero_le _⟩ ⟨Nat.le_of_ble_eq_true rfl, Nat.le_of_ble_eq_true rfl⟩ ?_
        refine z_callS0 (m_In_bitCount hs0 hst _) ym_In_bitCount qM_Tb_105 qS_In_bitCount d_Tb_staleShares_30 rfl (Nat.le_of_ble_eq_true rfl) ⟨Nat.zero_le _, Nat.zero_le _⟩ ⟨Nat.le_of_ble_eq_true rfl, Nat.le_of_ble_eq_true rfl⟩ ?_
        refine z_iadd d_Tb_staleShares_33 ?_
        refine z_istore_n (L' := [(1, _), (2, _), (0, _)]) d_Tb_staleShares_34 rfl (by decide) rfl ?_
        refine z_iinc (v := nI (i + 1)) (L' := [(2, _), (1, _), (0, _)]) 1 d_Tb_staleShares_35 rfl (nI_1 i) (by decide) rfl ?_
        refine z_goto 4 d_Tb_staleShares_38 (by decide) ?_
        exact ih_4 (i + 1) _ (by omega) (by omega)
  exact key_4 (ns + 1) 0 _ (by omega) (by omega)
theorem d_Tb_isLawful_0 : decode c_Tb_isLawful 0 = .ok (.aload_n 0, 1) := by decide +kernel
theorem d_Tb_isLawful_1 : decode c_Tb_isLawful 1 = .ok (.iload_n 2, 1) := by decide +kernel
theorem d_Tb_isLawful_2 : decode c_Tb_isLawful 2 = .ok (.invokevirtual 354, 3) := by decide +kernel
theorem d_Tb_isLawful_5 : decode c_Tb_isLawful 5 = .ok (.aload_n 1, 1) := by decide +kernel
theorem d_Tb_isLawful_6 : decode c_Tb_isLawful 6 = .ok (.getfield 357, 3) := by decide +kernel
theorem d_Tb_isLawful_9 : decode c_Tb_isLawful 9 = .ok (.if_icmp .lt 25, 3) := by decide +kernel
theorem d_Tb_isLawful_12 : decode c_Tb_isLawful 12 = .ok (.aload_n 0, 1) := by decide +kernel
theorem d_Tb_isLawful_13 : decode c_Tb_isLawful 13 = .ok (.getfield 44, 3) := by decide +kernel
theorem d_Tb_isLawful_16 : decode c_Tb_isLawful 16 = .ok (.aload_n 1, 1) := by decide +kernel
theorem d_Tb_isLawful_17 : decode c_Tb_isLawful 17 = .ok (.getfield 360, 3) := by decide +kernel
theorem d_Tb_isLawful_20 : decode c_Tb_isLawful 20 = .ok (.if_icmp .lt 14, 3) := by decide +kernel
theorem d_Tb_isLawful_23 : decode c_Tb_isLawful 23 = .ok (.aload_n 1, 1) := by decide +kernel
theorem d_Tb_isLawful_24 : decode c_Tb_isLawful 24 = .ok (.getfield 213, 3) := by decide +kernel
theorem d_Tb_isLawful_27 : decode c_Tb_isLawful 27 = .ok (.ifCond .ne 7, 3) := by decide +kernel
theorem d_Tb_isLawful_30 : decode c_Tb_isLawful 30 = .ok (.iconst 1, 1) := by decide +kernel
theorem d_Tb_isLawful_31 : decode c_Tb_isLawful 31 = .ok (.goto 4, 3) := by decide +kernel
theorem d_Tb_isLawful_34 : decode c_Tb_isLawful 34 = .ok (.iconst 0, 1) := by decide +kernel
theorem d_Tb_isLawful_35 : decode c_Tb_isLawful 35 = .ok (.ireturn, 1) := by decide +kernel
set_option maxHeartbeats 4000000 in
set_option maxRecDepth 100000 in
theorem m_Tb_isLawful {g0 : State} {d : zD} {l : Launch} {a0 : Array Value} (hs0 : zS0 d a0 g0) (hst : l.stackTraces = false) {G : zG} {A : Nat → Nat} {D : Nat → UInt64} {V : Nat → Nat → Int32} {nk ns : Nat} (hT : zT d A D V nk ns G) {h hs he : Nat} {t z dt : Int32} {sh ep : Nat → Int32} {epo fr bl : Int32} (hS : zSe d h hs he t z dt sh ep epo fr bl G) (set : Int32) : zMet g0 d l y_Tb_isLawful c_Tb_isLawful 3 ((Option.some Jvm.ClassFile.FieldType.boolean)) 12 0 0 [.ref (A 0), .ref h, .int set] (G) (zB1 G) (zNo) := by
  have hG_Tb := hT.tb
  have hnk : nk ≤ 8 := hT.2.1
  have hns : ns ≤ 6 := hT.2.2.1
  obtain ⟨hG_Se, hG_s, hG_e, hne⟩ := id hS
  refine z_entry hs0 hst (by decide) (Nat.le_of_ble_eq_true rfl) (fun p e s m args below meth c => ?_)
  refine z_aload_n 0 d_Tb_isLawful_0 rfl rfl ?_
  refine z_iload_n 2 d_Tb_isLawful_1 rfl rfl ?_
  refine z_callVp0 (m_Tb_zonesOf hs0 hst hT set) ym_Tb_zonesOf qM_Tb_354 qI_Tb_zonesOf qV_Tb_Tb_zonesOf zc_Tb hG_Tb d_Tb_isLawful_2 rfl (Nat.le_of_ble_eq_true rfl) ⟨Nat.zero_le _, Nat.zero_le _⟩ ⟨Nat.le_of_ble_eq_true rfl, Nat.le_of_ble_eq_true rfl⟩ (fun r_2 G_2 hp_2 => ?_)
  obtain ⟨⟨v_2, rfl⟩, rfl⟩ := hp_2
  refine z_aload_n 1 d_Tb_isLawful_5 rfl rfl ?_
  refine z_get zc_Se 1 (by decide) qF_Tb_357 hG_Se rfl d_Tb_isLawful_6 ?_
  refine z_icmp_lt 34 d_Tb_isLawful_9 (by decide) (fun c_9 => ?_) (fun c_9 => ?_)
  · skip
    refine z_iconst (v := 0) d_Tb_isLawful_34 (by decide) ?_
    exact z_zret rfl (by first | rfl | exact zb_nar _) (by first | exact ⟨⟨true, rfl⟩, rfl⟩ | exact ⟨⟨false, rfl⟩, rfl⟩ | exact ⟨⟨_, rfl⟩, rfl⟩) (by first | decide | omega) (by first | decide | omega) d_Tb_isLawful_35
  · skip
    refine z_aload_n 0 d_Tb_isLawful_12 rfl rfl ?_
    refine z_get zc_Tb 6 (by decide) qF_Tb_44 hG_Tb rfl d_Tb_isLawful_13 ?_
    refine z_aload_n 1 d_Tb_isLawful_16 rfl rfl ?_
    refine z_get zc_Se 2 (by decide) qF_Tb_360 hG_Se rfl d_Tb_isLawful_17 ?_
    refine z_icmp_lt 34 d_Tb_isLawful_20 (by decide) (fun c_20 => ?_) (fun c_20 => ?_)
    · skip
      refine z_iconst (v := 0) d_Tb_isLawful_34 (by decide) ?_
      exact z_zret rfl (by first | rfl | exact zb_nar _) (by first | exact ⟨⟨true, rfl⟩, rfl⟩ | exact ⟨⟨false, rfl⟩, rfl⟩ | exact ⟨⟨_, rfl⟩, rfl⟩) (by first | decide | omega) (by first | decide | omega) d_Tb_isLawful_35
    · skip
      refine z_aload_n 1 d_Tb_isLawful_23 rfl rfl ?_
      refine z_get zc_Se 6 (by decide) qF_Tb_213 hG_Se rfl d_Tb_isLawful_24 ?_
      refine z_if_ne 34 d_Tb_isLawful_27 (by decide) (fun c_27 => ?_) (fun c_27 => ?_)
      · skip
        refine z_iconst (v := 0) d_Tb_isLawful_34 (by decide) ?_
        exact z_zret rfl (by first | rfl | exact zb_nar _) (by first | exact ⟨⟨true, rfl⟩, rfl⟩ | exact ⟨⟨false, rfl⟩, rfl⟩ | exact ⟨⟨_, rfl⟩, rfl⟩) (by first | decide | omega) (by first | decide | omega) d_Tb_isLawful_35
      · skip
        refine z_iconst (v := 1) d_Tb_isLawful_30 (by decide) ?_
        refine z_goto 35 d_Tb_isLawful_31 (by decide) ?_
        exact z_zret rfl (by first | rfl | exact zb_nar _) (by first | exact ⟨⟨true, rfl⟩, rfl⟩ | exact ⟨⟨false, rfl⟩, rfl⟩ | exact ⟨⟨_, rfl⟩, rfl⟩) (by first | decide | omega) (by first | decide | omega) d_Tb_isLawful_35
theorem d_Tb_isLess_0 : decode c_Tb_isLess 0 = .ok (.iload_n 1, 1) := by decide +kernel
theorem d_Tb_isLess_1 : decode c_Tb_isLess 1 = .ok (.invokestatic 105, 3) := by decide +kernel
theorem d_Tb_isLess_4 : decode c_Tb_isLess 4 = .ok (.iload_n 2, 1) := by decide +kernel
theorem d_Tb_isLess_5 : decode c_Tb_isLess 5 = .ok (.invokestatic 105, 3) := by decide +kernel
theorem d_Tb_isLess_8 : decode c_Tb_isLess 8 = .ok (.isub, 1) := by decide +kernel
theorem d_Tb_isLess_9 : decode c_Tb_isLess 9 = .ok (.istore_n 3, 1) := by decide +kernel
theorem d_Tb_isLess_10 : decode c_Tb_isLess 10 = .ok (.iload_n 3, 1) := by decide +kernel
theorem d_Tb_isLess_11 : decode c_Tb_isLess 11 = .ok (.ifCond .lt 20, 3) := by decide +kernel
theorem d_Tb_isLess_14 : decode c_Tb_isLess 14 = .ok (.iload_n 3, 1) := by decide +kernel
theorem d_Tb_isLess_15 : decode c_Tb_isLess 15 = .ok (.ifCond .ne 20, 3) := by decide +kernel
theorem d_Tb_isLess_18 : decode c_Tb_isLess 18 = .ok (.aload_n 0, 1) := by decide +kernel
theorem d_Tb_isLess_19 : decode c_Tb_isLess 19 = .ok (.iload_n 1, 1) := by decide +kernel
theorem d_Tb_isLess_20 : decode c_Tb_isLess 20 = .ok (.invokevirtual 372, 3) := by decide +kernel
theorem d_Tb_isLess_23 : decode c_Tb_isLess 23 = .ok (.aload_n 0, 1) := by decide +kernel
theorem d_Tb_isLess_24 : decode c_Tb_isLess 24 = .ok (.iload_n 2, 1) := by decide +kernel
theorem d_Tb_isLess_25 : decode c_Tb_isLess 25 = .ok (.invokevirtual 372, 3) := by decide +kernel
theorem d_Tb_isLess_28 : decode c_Tb_isLess 28 = .ok (.if_icmp .ge 7, 3) := by decide +kernel
theorem d_Tb_isLess_31 : decode c_Tb_isLess 31 = .ok (.iconst 1, 1) := by decide +kernel
theorem d_Tb_isLess_32 : decode c_Tb_isLess 32 = .ok (.goto 4, 3) := by decide +kernel
theorem d_Tb_isLess_35 : decode c_Tb_isLess 35 = .ok (.iconst 0, 1) := by decide +kernel
theorem d_Tb_isLess_36 : decode c_Tb_isLess 36 = .ok (.ireturn, 1) := by decide +kernel
set_option maxHeartbeats 4000000 in
set_option maxRecDepth 100000 in
theorem m_Tb_isLess {g0 : State} {d : zD} {l : Launch} {a0 : Array Value} (hs0 : zS0 d a0 g0) (hst : l.stackTraces = false) {G : zG} {A : Nat → Nat} {D : Nat → UInt64} {V : Nat → Nat → Int32} {nk ns : Nat} (hT : zT d A D V nk ns G) (set oth : Int32) : zMet g0 d l y_Tb_isLess c_Tb_isLess 4 ((Option.some Jvm.ClassFile.FieldType.boolean)) 12 0 0 [.ref (A 0), .int set, .int oth] (G) (zB1 G) (zNo) := by
  have hG_Tb := hT.tb
  have hnk : nk ≤ 8 := hT.2.1
  have hns : ns ≤ 6 := hT.2.2.1
  refine z_entry hs0 hst (by decide) (Nat.le_of_ble_eq_true rfl) (fun p e s m args below meth c => ?_)
  refine z_iload_n 1 d_Tb_isLess_0 rfl rfl ?_
  refine z_callS0 (m_In_bitCount hs0 hst set) ym_In_bitCount qM_Tb_105 qS_In_bitCount d_Tb_isLess_1 rfl (Nat.le_of_ble_eq_true rfl) ⟨Nat.zero_le _, Nat.zero_le _⟩ ⟨Nat.le_of_ble_eq_true rfl, Nat.le_of_ble_eq_true rfl⟩ ?_
  refine z_iload_n 2 d_Tb_isLess_4 rfl rfl ?_
  refine z_callS0 (m_In_bitCount hs0 hst oth) ym_In_bitCount qM_Tb_105 qS_In_bitCount d_Tb_isLess_5 rfl (Nat.le_of_ble_eq_true rfl) ⟨Nat.zero_le _, Nat.zero_le _⟩ ⟨Nat.le_of_ble_eq_true rfl, Nat.le_of_ble_eq_true rfl⟩ ?_
  refine z_isub d_Tb_isLess_8 ?_
  refine z_istore_n (L' := [(3, _), (0, _), (1, _), (2, _)]) d_Tb_isLess_9 rfl (by decide) rfl ?_
  refine z_iload_n 0 d_Tb_isLess_10 rfl rfl ?_
  refine z_if_lt 31 d_Tb_isLess_11 (by decide) (fun c_11 => ?_) (fun c_11 => ?_)
  · skip
    refine z_iconst (v := 1) d_Tb_isLess_31 (by decide) ?_
    refine z_goto 36 d_Tb_isLess_32 (by decide) ?_
    exact z_zret rfl (by first | rfl | exact zb_nar _) (by first | exact ⟨⟨true, rfl⟩, rfl⟩ | exact ⟨⟨false, rfl⟩, rfl⟩ | exact ⟨⟨_, rfl⟩, rfl⟩) (by first | decide | omega) (by first | decide | omega) d_Tb_isLess_36
  · skip
    refine z_iload_n 0 d_Tb_isLess_14 rfl rfl ?_
    refine z_if_ne 35 d_Tb_isLess_15 (by decide) (fun c_15 => ?_) (fun c_15 => ?_)
    · skip
      refine z_iconst (v := 0) d_Tb_isLess_35 (by decide) ?_
      exact z_zret rfl (by first | rfl | exact zb_nar _) (by first | exact ⟨⟨true, rfl⟩, rfl⟩ | exact ⟨⟨false, rfl⟩, rfl⟩ | exact ⟨⟨_, rfl⟩, rfl⟩) (by first | decide | omega) (by first | decide | omega) d_Tb_isLess_36
    · skip
      refine z_aload_n 1 d_Tb_isLess_18 rfl rfl ?_
      refine z_iload_n 2 d_Tb_isLess_19 rfl rfl ?_
      refine z_callVp0 (m_Tb_priceOf hs0 hst hT set) ym_Tb_priceOf qM_Tb_372 qI_Tb_priceOf qV_Tb_Tb_priceOf zc_Tb hG_Tb d_Tb_isLess_20 rfl (Nat.le_of_ble_eq_true rfl) ⟨Nat.zero_le _, Nat.zero_le _⟩ ⟨Nat.le_of_ble_eq_true rfl, Nat.le_of_ble_eq_true rfl⟩ (fun r_20 G_20 hp_20 => ?_)
      obtain ⟨⟨v_20, rfl⟩, rfl⟩ := hp_20
      refine z_aload_n 1 d_Tb_isLess_23 rfl rfl ?_
      refine z_iload_n 3 d_Tb_isLess_24 rfl rfl ?_
      refine z_callVp0 (m_Tb_priceOf hs0 hst hT oth) ym_Tb_priceOf qM_Tb_372 qI_Tb_priceOf qV_Tb_Tb_priceOf zc_Tb hG_Tb d_Tb_isLess_25 rfl (Nat.le_of_ble_eq_true rfl) ⟨Nat.zero_le _, Nat.zero_le _⟩ ⟨Nat.le_of_ble_eq_true rfl, Nat.le_of_ble_eq_true rfl⟩ (fun r_25 G_25 hp_25 => ?_)
      obtain ⟨⟨v_25, rfl⟩, rfl⟩ := hp_25
      refine z_icmp_ge 35 d_Tb_isLess_28 (by decide) (fun c_28 => ?_) (fun c_28 => ?_)
      · skip
        refine z_iconst (v := 0) d_Tb_isLess_35 (by decide) ?_
        exact z_zret rfl (by first | rfl | exact zb_nar _) (by first | exact ⟨⟨true, rfl⟩, rfl⟩ | exact ⟨⟨false, rfl⟩, rfl⟩ | exact ⟨⟨_, rfl⟩, rfl⟩) (by first | decide | omega) (by first | decide | omega) d_Tb_isLess_36
      · skip
        refine z_iconst (v := 1) d_Tb_isLess_31 (by decide) ?_
        refine z_goto 36 d_Tb_isLess_32 (by decide) ?_
        exact z_zret rfl (by first | rfl | exact zb_nar _) (by first | exact ⟨⟨true, rfl⟩, rfl⟩ | exact ⟨⟨false, rfl⟩, rfl⟩ | exact ⟨⟨_, rfl⟩, rfl⟩) (by first | decide | omega) (by first | decide | omega) d_Tb_isLess_36
theorem d_Tb_cheapestOf_0 : decode c_Tb_cheapestOf 0 = .ok (.iconst 0, 1) := by decide +kernel
theorem d_Tb_cheapestOf_1 : decode c_Tb_cheapestOf 1 = .ok (.istore_n 2, 1) := by decide +kernel
theorem d_Tb_cheapestOf_2 : decode c_Tb_cheapestOf 2 = .ok (.iconst 0, 1) := by decide +kernel
theorem d_Tb_cheapestOf_3 : decode c_Tb_cheapestOf 3 = .ok (.istore_n 3, 1) := by decide +kernel
theorem d_Tb_cheapestOf_4 : decode c_Tb_cheapestOf 4 = .ok (.iconst 0, 1) := by decide +kernel
theorem d_Tb_cheapestOf_5 : decode c_Tb_cheapestOf 5 = .ok (.istore 4, 2) := by decide +kernel
theorem d_Tb_cheapestOf_7 : decode c_Tb_cheapestOf 7 = .ok (.iload 4, 2) := by decide +kernel
theorem d_Tb_cheapestOf_9 : decode c_Tb_cheapestOf 9 = .ok (.aload_n 0, 1) := by decide +kernel
theorem d_Tb_cheapestOf_10 : decode c_Tb_cheapestOf 10 = .ok (.getfield 10, 3) := by decide +kernel
theorem d_Tb_cheapestOf_13 : decode c_Tb_cheapestOf 13 = .ok (.invokevirtual 68, 3) := by decide +kernel
theorem d_Tb_cheapestOf_16 : decode c_Tb_cheapestOf 16 = .ok (.if_icmp .ge 53, 3) := by decide +kernel
theorem d_Tb_cheapestOf_19 : decode c_Tb_cheapestOf 19 = .ok (.aload_n 0, 1) := by decide +kernel
theorem d_Tb_cheapestOf_20 : decode c_Tb_cheapestOf 20 = .ok (.getfield 10, 3) := by decide +kernel
theorem d_Tb_cheapestOf_23 : decode c_Tb_cheapestOf 23 = .ok (.iload 4, 2) := by decide +kernel
theorem d_Tb_cheapestOf_25 : decode c_Tb_cheapestOf 25 = .ok (.invokevirtual 166, 3) := by decide +kernel
theorem d_Tb_cheapestOf_28 : decode c_Tb_cheapestOf 28 = .ok (.checkcast 77, 3) := by decide +kernel
theorem d_Tb_cheapestOf_31 : decode c_Tb_cheapestOf 31 = .ok (.getfield 363, 3) := by decide +kernel
theorem d_Tb_cheapestOf_34 : decode c_Tb_cheapestOf 34 = .ok (.istore 5, 2) := by decide +kernel
theorem d_Tb_cheapestOf_36 : decode c_Tb_cheapestOf 36 = .ok (.iload_n 1, 1) := by decide +kernel
theorem d_Tb_cheapestOf_37 : decode c_Tb_cheapestOf 37 = .ok (.iload 4, 2) := by decide +kernel
theorem d_Tb_cheapestOf_39 : decode c_Tb_cheapestOf 39 = .ok (.invokestatic 124, 3) := by decide +kernel
theorem d_Tb_cheapestOf_42 : decode c_Tb_cheapestOf 42 = .ok (.ifCond .eq 21, 3) := by decide +kernel
theorem d_Tb_cheapestOf_45 : decode c_Tb_cheapestOf 45 = .ok (.iload_n 2, 1) := by decide +kernel
theorem d_Tb_cheapestOf_46 : decode c_Tb_cheapestOf 46 = .ok (.ifCond .eq 9, 3) := by decide +kernel
theorem d_Tb_cheapestOf_49 : decode c_Tb_cheapestOf 49 = .ok (.iload 5, 2) := by decide +kernel
theorem d_Tb_cheapestOf_51 : decode c_Tb_cheapestOf 51 = .ok (.iload_n 3, 1) := by decide +kernel
theorem d_Tb_cheapestOf_52 : decode c_Tb_cheapestOf 52 = .ok (.if_icmp .ge 11, 3) := by decide +kernel
theorem d_Tb_cheapestOf_55 : decode c_Tb_cheapestOf 55 = .ok (.iconst 1, 1) := by decide +kernel
theorem d_Tb_cheapestOf_56 : decode c_Tb_cheapestOf 56 = .ok (.iload 4, 2) := by decide +kernel
theorem d_Tb_cheapestOf_58 : decode c_Tb_cheapestOf 58 = .ok (.ishl, 1) := by decide +kernel
theorem d_Tb_cheapestOf_59 : decode c_Tb_cheapestOf 59 = .ok (.istore_n 2, 1) := by decide +kernel
theorem d_Tb_cheapestOf_60 : decode c_Tb_cheapestOf 60 = .ok (.iload 5, 2) := by decide +kernel
theorem d_Tb_cheapestOf_62 : decode c_Tb_cheapestOf 62 = .ok (.istore_n 3, 1) := by decide +kernel
theorem d_Tb_cheapestOf_63 : decode c_Tb_cheapestOf 63 = .ok (.iinc 4 1, 3) := by decide +kernel
theorem d_Tb_cheapestOf_66 : decode c_Tb_cheapestOf 66 = .ok (.goto (-59), 3) := by decide +kernel
theorem d_Tb_cheapestOf_69 : decode c_Tb_cheapestOf 69 = .ok (.iload_n 2, 1) := by decide +kernel
theorem d_Tb_cheapestOf_70 : decode c_Tb_cheapestOf 70 = .ok (.ireturn, 1) := by decide +kernel
set_option maxHeartbeats 4000000 in
set_option maxRecDepth 100000 in
theorem m_Tb_cheapestOf {g0 : State} {d : zD} {l : Launch} {a0 : Array Value} (hs0 : zS0 d a0 g0) (hst : l.stackTraces = false) {G : zG} {A : Nat → Nat} {D : Nat → UInt64} {V : Nat → Nat → Int32} {nk ns : Nat} (hT : zT d A D V nk ns G) (set : Int32) : zMet g0 d l y_Tb_cheapestOf c_Tb_cheapestOf 6 ((Option.some Jvm.ClassFile.FieldType.int)) 11 0 0 [.ref (A 0), .int set] (G) (zI1 G) (zNo) := by
  have hG_Tb := hT.tb
  have hnk : nk ≤ 8 := hT.2.1
  have hns : ns ≤ 6 := hT.2.2.1
  refine z_entry hs0 hst (by decide) (Nat.le_of_ble_eq_true rfl) (fun p e s m args below meth c => ?_)
  refine z_iconst (v := 0) d_Tb_cheapestOf_0 (by decide) ?_
  refine z_istore_n (L' := [(2, _), (0, _), (1, _)]) d_Tb_cheapestOf_1 rfl (by decide) rfl ?_
  refine z_iconst (v := 0) d_Tb_cheapestOf_2 (by decide) ?_
  refine z_istore_n (L' := [(3, _), (2, _), (0, _), (1, _)]) d_Tb_cheapestOf_3 rfl (by decide) rfl ?_
  refine z_iconst (v := (nI 0)) d_Tb_cheapestOf_4 (by decide) ?_
  refine z_istore (L' := [(4, _), (3, _), (2, _), (0, _), (1, _)]) d_Tb_cheapestOf_5 (by decide) rfl ?_
  have key_7 : ∀ (n : Nat) (i : Nat) (v w : Int32), nk - i < n → (i ≤ nk) → Z g0 d y_Tb_cheapestOf c_Tb_cheapestOf 6 ((Option.some Jvm.ClassFile.FieldType.int)) [] p l e (zR 11 0 0) s m args below meth c (vx_MQ below (zQc g0 d (zI1 G)) (zXc g0 d (zNo)) args s 0 0 (zA g0)) 0 0 (G) [(4, .int (nI i)), (3, .int v), (2, .int w), (0, .ref (A 0)), (1, .int set)] [] 7 := by
    intro n
    induction n with
    | zero => intro i v w h0; exact absurd h0 (Nat.not_lt_zero _)
    | succ n ih_7 =>
      intro i v w hm_7 hi
      refine z_iload 0 d_Tb_cheapestOf_7 rfl ?_
      refine z_aload_n 3 d_Tb_cheapestOf_9 rfl rfl ?_
      refine z_get zc_Tb 0 (by decide) qF_Tb_10 hG_Tb rfl d_Tb_cheapestOf_10 ?_
      refine z_callV0 (m_AL_size hs0 hst hT.kl) ym_AL_size qM_Tb_68 qI_AL_size qV_AL_AL_size zc_AL hT.kl d_Tb_cheapestOf_13 rfl (Nat.le_of_ble_eq_true rfl) ⟨Nat.zero_le _, Nat.zero_le _⟩ ⟨Nat.le_of_ble_eq_true rfl, Nat.le_of_ble_eq_true rfl⟩ ?_
      refine z_icmp_ge 69 d_Tb_cheapestOf_16 (by decide) (fun c_16 => ?_) (fun c_16 => ?_)
      · skip
        refine z_iload_n 2 d_Tb_cheapestOf_69 rfl rfl ?_
        exact z_iret rfl (⟨⟨_, rfl⟩, rfl⟩) (by first | decide | omega) (by first | decide | omega) d_Tb_cheapestOf_70
      · skip
        have hi6 : i < nk := Nat.lt_of_not_le fun q => c_16 (nI_le q (by omega))
        refine z_aload_n 3 d_Tb_cheapestOf_19 rfl rfl ?_
        refine z_get zc_Tb 0 (by decide) qF_Tb_10 hG_Tb rfl d_Tb_cheapestOf_20 ?_
        refine z_iload 0 d_Tb_cheapestOf_23 rfl ?_
        refine z_callV0 (m_AL_get hs0 hst (hT.kA hi6) hi6 (if_pos hi6)) ym_AL_get qM_Tb_166 qI_AL_get qV_AL_AL_get zc_AL (hT.kA hi6).1 d_Tb_cheapestOf_25 rfl (Nat.le_of_ble_eq_true rfl) ⟨Nat.zero_le _, Nat.zero_le _⟩ ⟨Nat.le_of_ble_eq_true rfl, Nat.le_of_ble_eq_true rfl⟩ ?_
        refine z_castS zc_Ke qK_Tb_77 (hT.ke hi6) d_Tb_cheapestOf_28 ?_
        refine z_get zc_Ke 2 (by decide) qF_Tb_363 (hT.ke hi6) rfl d_Tb_cheapestOf_31 ?_
        refine z_istore (L' := [(5, _), (4, _), (3, _), (2, _), (0, _), (1, _)]) d_Tb_cheapestOf_34 (by decide) rfl ?_
        refine z_iload_n 5 d_Tb_cheapestOf_36 rfl rfl ?_
        refine z_iload 1 d_Tb_cheapestOf_37 rfl ?_
        refine z_callS0 (m_Tb_isIn hs0 hst set (nI i)) ym_Tb_isIn qM_Tb_124 qS_Tb_isIn d_Tb_cheapestOf_39 rfl (Nat.le_of_ble_eq_true rfl) ⟨Nat.zero_le _, Nat.zero_le _⟩ ⟨Nat.le_of_ble_eq_true rfl, Nat.le_of_ble_eq_true rfl⟩ ?_
        refine z_if_eq 63 d_Tb_cheapestOf_42 (by decide) (fun c_42 => ?_) (fun c_42 => ?_)
        · skip
          refine z_iinc (v := nI (i + 1)) (L' := [(4, _), (5, _), (3, _), (2, _), (0, _), (1, _)]) 1 d_Tb_cheapestOf_63 rfl (nI_1 i) (by decide) rfl ?_
          refine z_goto 7 d_Tb_cheapestOf_66 (by decide) ?_
          refine z_sub (L' := [(4, _), (3, _), (2, _), (0, _), (1, _)]) [0, 2, 3, 4, 5] rfl ?_
          exact ih_7 (i + 1) _ _ (by omega) (by omega)
        · skip
          refine z_iload_n 3 d_Tb_cheapestOf_45 rfl rfl ?_
          refine z_if_eq 55 d_Tb_cheapestOf_46 (by decide) (fun c_46 => ?_) (fun c_46 => ?_)
          · skip
            refine z_iconst (v := 1) d_Tb_cheapestOf_55 (by decide) ?_
            refine z_iload 1 d_Tb_cheapestOf_56 rfl ?_
            refine z_ishl d_Tb_cheapestOf_58 ?_
            refine z_istore_n (L' := [(2, _), (5, _), (4, _), (3, _), (0, _), (1, _)]) d_Tb_cheapestOf_59 rfl (by decide) rfl ?_
            refine z_iload 1 d_Tb_cheapestOf_60 rfl ?_
            refine z_istore_n (L' := [(3, _), (2, _), (5, _), (4, _), (0, _), (1, _)]) d_Tb_cheapestOf_62 rfl (by decide) rfl ?_
            refine z_iinc (v := nI (i + 1)) (L' := [(4, _), (3, _), (2, _), (5, _), (0, _), (1, _)]) 3 d_Tb_cheapestOf_63 rfl (nI_1 i) (by decide) rfl ?_
            refine z_goto 7 d_Tb_cheapestOf_66 (by decide) ?_
            refine z_sub (L' := [(4, _), (3, _), (2, _), (0, _), (1, _)]) [0, 1, 2, 4, 5] rfl ?_
            exact ih_7 (i + 1) _ _ (by omega) (by omega)
          · skip
            refine z_iload 0 d_Tb_cheapestOf_49 rfl ?_
            refine z_iload_n 2 d_Tb_cheapestOf_51 rfl rfl ?_
            refine z_icmp_ge 63 d_Tb_cheapestOf_52 (by decide) (fun c_52 => ?_) (fun c_52 => ?_)
            · skip
              refine z_iinc (v := nI (i + 1)) (L' := [(4, _), (5, _), (3, _), (2, _), (0, _), (1, _)]) 1 d_Tb_cheapestOf_63 rfl (nI_1 i) (by decide) rfl ?_
              refine z_goto 7 d_Tb_cheapestOf_66 (by decide) ?_
              refine z_sub (L' := [(4, _), (3, _), (2, _), (0, _), (1, _)]) [0, 2, 3, 4, 5] rfl ?_
              exact ih_7 (i + 1) _ _ (by omega) (by omega)
            · skip
              refine z_iconst (v := 1) d_Tb_cheapestOf_55 (by decide) ?_
              refine z_iload 1 d_Tb_cheapestOf_56 rfl ?_
              refine z_ishl d_Tb_cheapestOf_58 ?_
              refine z_istore_n (L' := [(2, _), (5, _), (4, _), (3, _), (0, _), (1, _)]) d_Tb_cheapestOf_59 rfl (by decide) rfl ?_
              refine z_iload 1 d_Tb_cheapestOf_60 rfl ?_
              refine z_istore_n (L' := [(3, _), (2, _), (5, _), (4, _), (0, _), (1, _)]) d_Tb_cheapestOf_62 rfl (by decide) rfl ?_
              refine z_iinc (v := nI (i + 1)) (L' := [(4, _), (3, _), (2, _), (5, _), (0, _), (1, _)]) 3 d_Tb_cheapestOf_63 rfl (nI_1 i) (by decide) rfl ?_
              refine z_goto 7 d_Tb_cheapestOf_66 (by decide) ?_
              refine z_sub (L' := [(4, _), (3, _), (2, _), (0, _), (1, _)]) [0, 1, 2, 4, 5] rfl ?_
              exact ih_7 (i + 1) _ _ (by omega) (by omega)
  exact key_7 (nk + 1) 0 _ _ (by omega) (by omega)
theorem d_Tb_boughtOf_0 : decode c_Tb_boughtOf 0 = .ok (.aload_n 1, 1) := by decide +kernel
theorem d_Tb_boughtOf_1 : decode c_Tb_boughtOf 1 = .ok (.invokevirtual 144, 3) := by decide +kernel
theorem d_Tb_boughtOf_4 : decode c_Tb_boughtOf 4 = .ok (.istore_n 2, 1) := by decide +kernel
theorem d_Tb_boughtOf_5 : decode c_Tb_boughtOf 5 = .ok (.iload_n 2, 1) := by decide +kernel
theorem d_Tb_boughtOf_6 : decode c_Tb_boughtOf 6 = .ok (.invokestatic 105, 3) := by decide +kernel
theorem d_Tb_boughtOf_9 : decode c_Tb_boughtOf 9 = .ok (.aload_n 1, 1) := by decide +kernel
theorem d_Tb_boughtOf_10 : decode c_Tb_boughtOf 10 = .ok (.getfield 147, 3) := by decide +kernel
theorem d_Tb_boughtOf_13 : decode c_Tb_boughtOf 13 = .ok (.if_icmp .ge 5, 3) := by decide +kernel
theorem d_Tb_boughtOf_16 : decode c_Tb_boughtOf 16 = .ok (.iconst 0, 1) := by decide +kernel
theorem d_Tb_boughtOf_17 : decode c_Tb_boughtOf 17 = .ok (.ireturn, 1) := by decide +kernel
theorem d_Tb_boughtOf_18 : decode c_Tb_boughtOf 18 = .ok (.iconst 0, 1) := by decide +kernel
theorem d_Tb_boughtOf_19 : decode c_Tb_boughtOf 19 = .ok (.istore_n 3, 1) := by decide +kernel
theorem d_Tb_boughtOf_20 : decode c_Tb_boughtOf 20 = .ok (.iconst 0, 1) := by decide +kernel
theorem d_Tb_boughtOf_21 : decode c_Tb_boughtOf 21 = .ok (.istore 4, 2) := by decide +kernel
theorem d_Tb_boughtOf_23 : decode c_Tb_boughtOf 23 = .ok (.iload 4, 2) := by decide +kernel
theorem d_Tb_boughtOf_25 : decode c_Tb_boughtOf 25 = .ok (.aload_n 1, 1) := by decide +kernel
theorem d_Tb_boughtOf_26 : decode c_Tb_boughtOf 26 = .ok (.getfield 147, 3) := by decide +kernel
theorem d_Tb_boughtOf_29 : decode c_Tb_boughtOf 29 = .ok (.if_icmp .ge 28, 3) := by decide +kernel
theorem d_Tb_boughtOf_32 : decode c_Tb_boughtOf 32 = .ok (.aload_n 0, 1) := by decide +kernel
theorem d_Tb_boughtOf_33 : decode c_Tb_boughtOf 33 = .ok (.iload_n 2, 1) := by decide +kernel
theorem d_Tb_boughtOf_34 : decode c_Tb_boughtOf 34 = .ok (.invokevirtual 366, 3) := by decide +kernel
theorem d_Tb_boughtOf_37 : decode c_Tb_boughtOf 37 = .ok (.istore 5, 2) := by decide +kernel
theorem d_Tb_boughtOf_39 : decode c_Tb_boughtOf 39 = .ok (.iload_n 3, 1) := by decide +kernel
theorem d_Tb_boughtOf_40 : decode c_Tb_boughtOf 40 = .ok (.iload 5, 2) := by decide +kernel
theorem d_Tb_boughtOf_42 : decode c_Tb_boughtOf 42 = .ok (.ior, 1) := by decide +kernel
theorem d_Tb_boughtOf_43 : decode c_Tb_boughtOf 43 = .ok (.istore_n 3, 1) := by decide +kernel
theorem d_Tb_boughtOf_44 : decode c_Tb_boughtOf 44 = .ok (.iload_n 2, 1) := by decide +kernel
theorem d_Tb_boughtOf_45 : decode c_Tb_boughtOf 45 = .ok (.iload 5, 2) := by decide +kernel
theorem d_Tb_boughtOf_47 : decode c_Tb_boughtOf 47 = .ok (.iconst (-1), 1) := by decide +kernel
theorem d_Tb_boughtOf_48 : decode c_Tb_boughtOf 48 = .ok (.ixor, 1) := by decide +kernel
theorem d_Tb_boughtOf_49 : decode c_Tb_boughtOf 49 = .ok (.iand, 1) := by decide +kernel
theorem d_Tb_boughtOf_50 : decode c_Tb_boughtOf 50 = .ok (.istore_n 2, 1) := by decide +kernel
theorem d_Tb_boughtOf_51 : decode c_Tb_boughtOf 51 = .ok (.iinc 4 1, 3) := by decide +kernel
theorem d_Tb_boughtOf_54 : decode c_Tb_boughtOf 54 = .ok (.goto (-31), 3) := by decide +kernel
theorem d_Tb_boughtOf_57 : decode c_Tb_boughtOf 57 = .ok (.iload_n 3, 1) := by decide +kernel
theorem d_Tb_boughtOf_58 : decode c_Tb_boughtOf 58 = .ok (.ireturn, 1) := by decide +kernel
set_option maxHeartbeats 4000000 in
set_option maxRecDepth 100000 in
theorem m_Tb_boughtOf {g0 : State} {d : zD} {l : Launch} {a0 : Array Value} (hs0 : zS0 d a0 g0) (hst : l.stackTraces = false) {G : zG} {A : Nat → Nat} {D : Nat → UInt64} {V : Nat → Nat → Int32} {nk ns : Nat} (hT : zT d A D V nk ns G) {h hs he : Nat} {t : Nat} {z dt : Int32} {sh ep : Nat → Int32} {epo fr bl : Int32} (hS : zSe d h hs he (nI t) z dt sh ep epo fr bl G) (ht : t ≤ 4) : zMet g0 d l y_Tb_boughtOf c_Tb_boughtOf 6 ((Option.some Jvm.ClassFile.FieldType.int)) 12 0 0 [.ref (A 0), .ref h] (G) (zI1 G) (zNo) := by
  have hG_Tb := hT.tb
  have hnk : nk ≤ 8 := hT.2.1
  have hns : ns ≤ 6 := hT.2.2.1
  obtain ⟨hG_Se, hG_s, hG_e, hne⟩ := id hS
  refine z_entry hs0 hst (by decide) (Nat.le_of_ble_eq_true rfl) (fun p e s m args below meth c => ?_)
  refine z_aload_n 1 d_Tb_boughtOf_0 rfl rfl ?_
  refine z_callV0 (m_Se_currentSet hs0 hst hS) ym_Se_currentSet qM_Tb_144 qI_Se_currentSet qV_Se_Se_currentSet zc_Se hG_Se d_Tb_boughtOf_1 rfl (Nat.le_of_ble_eq_true rfl) ⟨Nat.zero_le _, Nat.zero_le _⟩ ⟨Nat.le_of_ble_eq_true rfl, Nat.le_of_ble_eq_true rfl⟩ ?_
  refine z_istore_n (L' := [(2, _), (0, _), (1, _)]) d_Tb_boughtOf_4 rfl (by decide) rfl ?_
  refine z_iload_n 0 d_Tb_boughtOf_5 rfl rfl ?_
  refine z_callS0 (m_In_bitCount hs0 hst _) ym_In_bitCount qM_Tb_105 qS_In_bitCount d_Tb_boughtOf_6 rfl (Nat.le_of_ble_eq_true rfl) ⟨Nat.zero_le _, Nat.zero_le _⟩ ⟨Nat.le_of_ble_eq_true rfl, Nat.le_of_ble_eq_true rfl⟩ ?_
  refine z_aload_n 2 d_Tb_boughtOf_9 rfl rfl ?_
  refine z_get zc_Se 0 (by decide) qF_Tb_147 hG_Se rfl d_Tb_boughtOf_10 ?_
  refine z_icmp_ge 18 d_Tb_boughtOf_13 (by decide) (fun c_13 => ?_) (fun c_13 => ?_)
  · skip
    refine z_iconst (v := 0) d_Tb_boughtOf_18 (by decide) ?_
    refine z_istore_n (L' := [(3, _), (2, _), (0, _), (1, _)]) d_Tb_boughtOf_19 rfl (by decide) rfl ?_
    refine z_iconst (v := (nI 0)) d_Tb_boughtOf_20 (by decide) ?_
    refine z_istore (L' := [(4, _), (3, _), (2, _), (0, _), (1, _)]) d_Tb_boughtOf_21 (by decide) rfl ?_
    have key_23 : ∀ (n : Nat) (i : Nat) (v w : Int32), t - i < n → (i ≤ t) → Z g0 d y_Tb_boughtOf c_Tb_boughtOf 6 ((Option.some Jvm.ClassFile.FieldType.int)) [] p l e (zR 12 0 0) s m args below meth c (vx_MQ below (zQc g0 d (zI1 G)) (zXc g0 d (zNo)) args s 0 0 (zA g0)) 0 0 (G) [(4, .int (nI i)), (3, .int v), (2, .int w), (0, .ref (A 0)), (1, .ref h)] [] 23 := by
      intro n
      induction n with
      | zero => intro i v w h0; exact absurd h0 (Nat.not_lt_zero _)
      | succ n ih_23 =>
        intro i v w hm_23 hi
        refine z_iload 0 d_Tb_boughtOf_23 rfl ?_
        refine z_aload_n 4 d_Tb_boughtOf_25 rfl rfl ?_
        refine z_get zc_Se 0 (by decide) qF_Tb_147 hG_Se rfl d_Tb_boughtOf_26 ?_
        refine z_icmp_ge 57 d_Tb_boughtOf_29 (by decide) (fun c_29 => ?_) (fun c_29 => ?_)
        · skip
          refine z_iload_n 1 d_Tb_boughtOf_57 rfl rfl ?_
          exact z_iret rfl (⟨⟨_, rfl⟩, rfl⟩) (by first | decide | omega) (by first | decide | omega) d_Tb_boughtOf_58
        · skip
          have hi6 : i < t := Nat.lt_of_not_le fun q => c_29 (nI_le q (by omega))
          refine z_aload_n 3 d_Tb_boughtOf_32 rfl rfl ?_
          refine z_iload_n 2 d_Tb_boughtOf_33 rfl rfl ?_
          refine z_callVp0 (m_Tb_cheapestOf hs0 hst hT w) ym_Tb_cheapestOf qM_Tb_366 qI_Tb_cheapestOf qV_Tb_Tb_cheapestOf zc_Tb hG_Tb d_Tb_boughtOf_34 rfl (Nat.le_of_ble_eq_true rfl) ⟨Nat.zero_le _, Nat.zero_le _⟩ ⟨Nat.le_of_ble_eq_true rfl, Nat.le_of_ble_eq_true rfl⟩ (fun r_34 G_34 hp_34 => ?_)
          obtain ⟨⟨v_34, rfl⟩, rfl⟩ := hp_34
          refine z_istore (L' := [(5, _), (4, _), (3, _), (2, _), (0, _), (1, _)]) d_Tb_boughtOf_37 (by decide) rfl ?_
          refine z_iload_n 2 d_Tb_boughtOf_39 rfl rfl ?_
          refine z_iload 0 d_Tb_boughtOf_40 rfl ?_
          refine z_ior d_Tb_boughtOf_42 ?_
          refine z_istore_n (L' := [(3, _), (5, _), (4, _), (2, _), (0, _), (1, _)]) d_Tb_boughtOf_43 rfl (by decide) rfl ?_
          refine z_iload_n 3 d_Tb_boughtOf_44 rfl rfl ?_
          refine z_iload 1 d_Tb_boughtOf_45 rfl ?_
          refine z_iconst (v := (-1)) d_Tb_boughtOf_47 (by decide) ?_
          refine z_ixor d_Tb_boughtOf_48 ?_
          refine z_iand d_Tb_boughtOf_49 ?_
          refine z_istore_n (L' := [(2, _), (3, _), (5, _), (4, _), (0, _), (1, _)]) d_Tb_boughtOf_50 rfl (by decide) rfl ?_
          refine z_iinc (v := nI (i + 1)) (L' := [(4, _), (2, _), (3, _), (5, _), (0, _), (1, _)]) 3 d_Tb_boughtOf_51 rfl (nI_1 i) (by decide) rfl ?_
          refine z_goto 23 d_Tb_boughtOf_54 (by decide) ?_
          refine z_sub (L' := [(4, _), (3, _), (2, _), (0, _), (1, _)]) [0, 2, 1, 4, 5] rfl ?_
          exact ih_23 (i + 1) _ _ (by omega) (by omega)
    exact key_23 (t + 1) 0 _ _ (by omega) (by omega)
  · skip
    refine z_iconst (v := 0) d_Tb_boughtOf_16 (by decide) ?_
    exact z_iret rfl (⟨⟨_, rfl⟩, rfl⟩) (by first | decide | omega) (by first | decide | omega) d_Tb_boughtOf_17
theorem d_Tb_boughtFor_0 : decode c_Tb_boughtFor 0 = .ok (.aload_n 0, 1) := by decide +kernel
theorem d_Tb_boughtFor_1 : decode c_Tb_boughtFor 1 = .ok (.aload_n 1, 1) := by decide +kernel
theorem d_Tb_boughtFor_2 : decode c_Tb_boughtFor 2 = .ok (.invokevirtual 392, 3) := by decide +kernel
theorem d_Tb_boughtFor_5 : decode c_Tb_boughtFor 5 = .ok (.istore_n 2, 1) := by decide +kernel
theorem d_Tb_boughtFor_6 : decode c_Tb_boughtFor 6 = .ok (.iload_n 2, 1) := by decide +kernel
theorem d_Tb_boughtFor_7 : decode c_Tb_boughtFor 7 = .ok (.ifCond .ne 7, 3) := by decide +kernel
theorem d_Tb_boughtFor_10 : decode c_Tb_boughtFor 10 = .ok (.iconst (-1), 1) := by decide +kernel
theorem d_Tb_boughtFor_11 : decode c_Tb_boughtFor 11 = .ok (.goto 8, 3) := by decide +kernel
theorem d_Tb_boughtFor_14 : decode c_Tb_boughtFor 14 = .ok (.aload_n 0, 1) := by decide +kernel
theorem d_Tb_boughtFor_15 : decode c_Tb_boughtFor 15 = .ok (.iload_n 2, 1) := by decide +kernel
theorem d_Tb_boughtFor_16 : decode c_Tb_boughtFor 16 = .ok (.invokevirtual 372, 3) := by decide +kernel
theorem d_Tb_boughtFor_19 : decode c_Tb_boughtFor 19 = .ok (.ireturn, 1) := by decide +kernel
set_option maxHeartbeats 4000000 in
set_option maxRecDepth 100000 in
theorem m_Tb_boughtFor {g0 : State} {d : zD} {l : Launch} {a0 : Array Value} (hs0 : zS0 d a0 g0) (hst : l.stackTraces = false) {G : zG} {A : Nat → Nat} {D : Nat → UInt64} {V : Nat → Nat → Int32} {nk ns : Nat} (hT : zT d A D V nk ns G) {h hs he : Nat} {t : Nat} {z dt : Int32} {sh ep : Nat → Int32} {epo fr bl : Int32} (hS : zSe d h hs he (nI t) z dt sh ep epo fr bl G) (ht : t ≤ 4) : zMet g0 d l y_Tb_boughtFor c_Tb_boughtFor 3 ((Option.some Jvm.ClassFile.FieldType.int)) 13 0 0 [.ref (A 0), .ref h] (G) (zI1 G) (zNo) := by
  have hG_Tb := hT.tb
  have hnk : nk ≤ 8 := hT.2.1
  have hns : ns ≤ 6 := hT.2.2.1
  obtain ⟨hG_Se, hG_s, hG_e, hne⟩ := id hS
  refine z_entry hs0 hst (by decide) (Nat.le_of_ble_eq_true rfl) (fun p e s m args below meth c => ?_)
  refine z_aload_n 0 d_Tb_boughtFor_0 rfl rfl ?_
  refine z_aload_n 1 d_Tb_boughtFor_1 rfl rfl ?_
  refine z_callVp0 (m_Tb_boughtOf hs0 hst hT hS ht) ym_Tb_boughtOf qM_Tb_392 qI_Tb_boughtOf qV_Tb_Tb_boughtOf zc_Tb hG_Tb d_Tb_boughtFor_2 rfl (Nat.le_of_ble_eq_true rfl) ⟨Nat.zero_le _, Nat.zero_le _⟩ ⟨Nat.le_of_ble_eq_true rfl, Nat.le_of_ble_eq_true rfl⟩ (fun r_2 G_2 hp_2 => ?_)
  obtain ⟨⟨v_2, rfl⟩, rfl⟩ := hp_2
  refine z_istore_n (L' := [(2, _), (0, _), (1, _)]) d_Tb_boughtFor_5 rfl (by decide) rfl ?_
  refine z_iload_n 0 d_Tb_boughtFor_6 rfl rfl ?_
  refine z_if_ne 14 d_Tb_boughtFor_7 (by decide) (fun c_7 => ?_) (fun c_7 => ?_)
  · skip
    refine z_aload_n 1 d_Tb_boughtFor_14 rfl rfl ?_
    refine z_iload_n 0 d_Tb_boughtFor_15 rfl rfl ?_
    refine z_callVp0 (m_Tb_priceOf hs0 hst hT v_2) ym_Tb_priceOf qM_Tb_372 qI_Tb_priceOf qV_Tb_Tb_priceOf zc_Tb hG_Tb d_Tb_boughtFor_16 rfl (Nat.le_of_ble_eq_true rfl) ⟨Nat.zero_le _, Nat.zero_le _⟩ ⟨Nat.le_of_ble_eq_true rfl, Nat.le_of_ble_eq_true rfl⟩ (fun r_16 G_16 hp_16 => ?_)
    obtain ⟨⟨v_16, rfl⟩, rfl⟩ := hp_16
    exact z_iret rfl (⟨⟨_, rfl⟩, rfl⟩) (by first | decide | omega) (by first | decide | omega) d_Tb_boughtFor_19
  · skip
    refine z_iconst (v := (-1)) d_Tb_boughtFor_10 (by decide) ?_
    refine z_goto 19 d_Tb_boughtFor_11 (by decide) ?_
    exact z_iret rfl (⟨⟨_, rfl⟩, rfl⟩) (by first | decide | omega) (by first | decide | omega) d_Tb_boughtFor_19
theorem d_Tb_fewestOf_0 : decode c_Tb_fewestOf 0 = .ok (.aload_n 1, 1) := by decide +kernel
theorem d_Tb_fewestOf_1 : decode c_Tb_fewestOf 1 = .ok (.invokevirtual 144, 3) := by decide +kernel
theorem d_Tb_fewestOf_4 : decode c_Tb_fewestOf 4 = .ok (.istore_n 2, 1) := by decide +kernel
theorem d_Tb_fewestOf_5 : decode c_Tb_fewestOf 5 = .ok (.iconst 0, 1) := by decide +kernel
theorem d_Tb_fewestOf_6 : decode c_Tb_fewestOf 6 = .ok (.istore_n 3, 1) := by decide +kernel
theorem d_Tb_fewestOf_7 : decode c_Tb_fewestOf 7 = .ok (.iconst 1, 1) := by decide +kernel
theorem d_Tb_fewestOf_8 : decode c_Tb_fewestOf 8 = .ok (.istore 4, 2) := by decide +kernel
theorem d_Tb_fewestOf_10 : decode c_Tb_fewestOf 10 = .ok (.iload 4, 2) := by decide +kernel
theorem d_Tb_fewestOf_12 : decode c_Tb_fewestOf 12 = .ok (.iload_n 2, 1) := by decide +kernel
theorem d_Tb_fewestOf_13 : decode c_Tb_fewestOf 13 = .ok (.if_icmp .gt 72, 3) := by decide +kernel
theorem d_Tb_fewestOf_16 : decode c_Tb_fewestOf 16 = .ok (.iload 4, 2) := by decide +kernel
theorem d_Tb_fewestOf_18 : decode c_Tb_fewestOf 18 = .ok (.iload_n 2, 1) := by decide +kernel
theorem d_Tb_fewestOf_19 : decode c_Tb_fewestOf 19 = .ok (.iconst (-1), 1) := by decide +kernel
theorem d_Tb_fewestOf_20 : decode c_Tb_fewestOf 20 = .ok (.ixor, 1) := by decide +kernel
theorem d_Tb_fewestOf_21 : decode c_Tb_fewestOf 21 = .ok (.iand, 1) := by decide +kernel
theorem d_Tb_fewestOf_22 : decode c_Tb_fewestOf 22 = .ok (.ifCond .ne 19, 3) := by decide +kernel
theorem d_Tb_fewestOf_25 : decode c_Tb_fewestOf 25 = .ok (.iload 4, 2) := by decide +kernel
theorem d_Tb_fewestOf_27 : decode c_Tb_fewestOf 27 = .ok (.invokestatic 105, 3) := by decide +kernel
theorem d_Tb_fewestOf_30 : decode c_Tb_fewestOf 30 = .ok (.aload_n 1, 1) := by decide +kernel
theorem d_Tb_fewestOf_31 : decode c_Tb_fewestOf 31 = .ok (.getfield 147, 3) := by decide +kernel
theorem d_Tb_fewestOf_34 : decode c_Tb_fewestOf 34 = .ok (.if_icmp .lt 7, 3) := by decide +kernel
theorem d_Tb_fewestOf_37 : decode c_Tb_fewestOf 37 = .ok (.iconst 1, 1) := by decide +kernel
theorem d_Tb_fewestOf_38 : decode c_Tb_fewestOf 38 = .ok (.goto 4, 3) := by decide +kernel
theorem d_Tb_fewestOf_41 : decode c_Tb_fewestOf 41 = .ok (.iconst 0, 1) := by decide +kernel
theorem d_Tb_fewestOf_42 : decode c_Tb_fewestOf 42 = .ok (.istore 5, 2) := by decide +kernel
theorem d_Tb_fewestOf_44 : decode c_Tb_fewestOf 44 = .ok (.iload 5, 2) := by decide +kernel
theorem d_Tb_fewestOf_46 : decode c_Tb_fewestOf 46 = .ok (.ifCond .eq 33, 3) := by decide +kernel
theorem d_Tb_fewestOf_49 : decode c_Tb_fewestOf 49 = .ok (.aload_n 0, 1) := by decide +kernel
theorem d_Tb_fewestOf_50 : decode c_Tb_fewestOf 50 = .ok (.iload 4, 2) := by decide +kernel
theorem d_Tb_fewestOf_52 : decode c_Tb_fewestOf 52 = .ok (.invokevirtual 354, 3) := by decide +kernel
theorem d_Tb_fewestOf_55 : decode c_Tb_fewestOf 55 = .ok (.aload_n 1, 1) := by decide +kernel
theorem d_Tb_fewestOf_56 : decode c_Tb_fewestOf 56 = .ok (.getfield 357, 3) := by decide +kernel
theorem d_Tb_fewestOf_59 : decode c_Tb_fewestOf 59 = .ok (.if_icmp .lt 20, 3) := by decide +kernel
theorem d_Tb_fewestOf_62 : decode c_Tb_fewestOf 62 = .ok (.iload_n 3, 1) := by decide +kernel
theorem d_Tb_fewestOf_63 : decode c_Tb_fewestOf 63 = .ok (.ifCond .eq 13, 3) := by decide +kernel
theorem d_Tb_fewestOf_66 : decode c_Tb_fewestOf 66 = .ok (.aload_n 0, 1) := by decide +kernel
theorem d_Tb_fewestOf_67 : decode c_Tb_fewestOf 67 = .ok (.iload 4, 2) := by decide +kernel
theorem d_Tb_fewestOf_69 : decode c_Tb_fewestOf 69 = .ok (.iload_n 3, 1) := by decide +kernel
theorem d_Tb_fewestOf_70 : decode c_Tb_fewestOf 70 = .ok (.invokevirtual 369, 3) := by decide +kernel
theorem d_Tb_fewestOf_73 : decode c_Tb_fewestOf 73 = .ok (.ifCond .eq 6, 3) := by decide +kernel
theorem d_Tb_fewestOf_76 : decode c_Tb_fewestOf 76 = .ok (.iload 4, 2) := by decide +kernel
theorem d_Tb_fewestOf_78 : decode c_Tb_fewestOf 78 = .ok (.istore_n 3, 1) := by decide +kernel
theorem d_Tb_fewestOf_79 : decode c_Tb_fewestOf 79 = .ok (.iinc 4 1, 3) := by decide +kernel
theorem d_Tb_fewestOf_82 : decode c_Tb_fewestOf 82 = .ok (.goto (-72), 3) := by decide +kernel
theorem d_Tb_fewestOf_85 : decode c_Tb_fewestOf 85 = .ok (.iload_n 3, 1) := by decide +kernel
theorem d_Tb_fewestOf_86 : decode c_Tb_fewestOf 86 = .ok (.ireturn, 1) := by decide +kernel
set_option maxHeartbeats 4000000 in
set_option maxRecDepth 100000 in
theorem m_Tb_fewestOf {g0 : State} {d : zD} {l : Launch} {a0 : Array Value} (hs0 : zS0 d a0 g0) (hst : l.stackTraces = false) {G : zG} {A : Nat → Nat} {D : Nat → UInt64} {V : Nat → Nat → Int32} {nk ns : Nat} (hT : zT d A D V nk ns G) {h hs he : Nat} {t z dt : Int32} {sh ep : Nat → Int32} {epo fr bl : Int32} (hS : zSe d h hs he t z dt sh ep epo fr bl G) : zMet g0 d l y_Tb_fewestOf c_Tb_fewestOf 6 ((Option.some Jvm.ClassFile.FieldType.int)) 13 0 0 [.ref (A 0), .ref h] (G) (zI1 G) (zNo) := by
  have hG_Tb := hT.tb
  have hnk : nk ≤ 8 := hT.2.1
  have hns : ns ≤ 6 := hT.2.2.1
  obtain ⟨hG_Se, hG_s, hG_e, hne⟩ := id hS
  obtain ⟨hq, hq1, hq2⟩ := zset_lt (zcur ep epo) (n := 8) (by decide)
  refine z_entry hs0 hst (by decide) (Nat.le_of_ble_eq_true rfl) (fun p e s m args below meth c => ?_)
  refine z_aload_n 1 d_Tb_fewestOf_0 rfl rfl ?_
  refine z_callV0 (m_Se_currentSet hs0 hst hS) ym_Se_currentSet qM_Tb_144 qI_Se_currentSet qV_Se_Se_currentSet zc_Se hG_Se d_Tb_fewestOf_1 rfl (Nat.le_of_ble_eq_true rfl) ⟨Nat.zero_le _, Nat.zero_le _⟩ ⟨Nat.le_of_ble_eq_true rfl, Nat.le_of_ble_eq_true rfl⟩ ?_
  rw [hq2]
  refine z_istore_n (L' := [(2, _), (0, _), (1, _)]) d_Tb_fewestOf_4 rfl (by decide) rfl ?_
  refine z_iconst (v := 0) d_Tb_fewestOf_5 (by decide) ?_
  refine z_istore_n (L' := [(3, _), (2, _), (0, _), (1, _)]) d_Tb_fewestOf_6 rfl (by decide) rfl ?_
  refine z_iconst (v := (nI 1)) d_Tb_fewestOf_7 (by decide) ?_
  refine z_istore (L' := [(4, _), (3, _), (2, _), (0, _), (1, _)]) d_Tb_fewestOf_8 (by decide) rfl ?_
  have key_10 : ∀ (n : Nat) (i : Nat) (v : Int32), hq + 1 - i < n → (i ≤ hq + 1) → Z g0 d y_Tb_fewestOf c_Tb_fewestOf 6 ((Option.some Jvm.ClassFile.FieldType.int)) [] p l e (zR 13 0 0) s m args below meth c (vx_MQ below (zQc g0 d (zI1 G)) (zXc g0 d (zNo)) args s 0 0 (zA g0)) 0 0 (G) [(4, .int (nI i)), (3, .int v), (2, .int (nI hq)), (0, .ref (A 0)), (1, .ref h)] [] 10 := by
    intro n
    induction n with
    | zero => intro i v h0; exact absurd h0 (Nat.not_lt_zero _)
    | succ n ih_10 =>
      intro i v hm_10 hi
      refine z_iload 0 d_Tb_fewestOf_10 rfl ?_
      refine z_iload_n 2 d_Tb_fewestOf_12 rfl rfl ?_
      refine z_icmp_gt 85 d_Tb_fewestOf_13 (by decide) (fun c_13 => ?_) (fun c_13 => ?_)
      · skip
        refine z_iload_n 1 d_Tb_fewestOf_85 rfl rfl ?_
        exact z_iret rfl (⟨⟨_, rfl⟩, rfl⟩) (by first | decide | omega) (by first | decide | omega) d_Tb_fewestOf_86
      · skip
        have hi6 : i ≤ hq := Nat.le_of_not_lt fun q => c_13 ((nI_ltI (by omega) (by omega)).mpr q)
        refine z_iload 0 d_Tb_fewestOf_16 rfl ?_
        refine z_iload_n 2 d_Tb_fewestOf_18 rfl rfl ?_
        refine z_iconst (v := (-1)) d_Tb_fewestOf_19 (by decide) ?_
        refine z_ixor d_Tb_fewestOf_20 ?_
        refine z_iand d_Tb_fewestOf_21 ?_
        refine z_if_ne 41 d_Tb_fewestOf_22 (by decide) (fun c_22 => ?_) (fun c_22 => ?_)
        · skip
          refine z_iconst (v := 0) d_Tb_fewestOf_41 (by decide) ?_
          refine z_istore (L' := [(5, _), (4, _), (3, _), (2, _), (0, _), (1, _)]) d_Tb_fewestOf_42 (by decide) rfl ?_
          refine z_iload 0 d_Tb_fewestOf_44 rfl ?_
          refine z_if_eq 79 d_Tb_fewestOf_46 (by decide) (fun c_46 => ?_) (fun c_46 => ?_)
          · skip
            refine z_iinc (v := nI (i + 1)) (L' := [(4, _), (5, _), (3, _), (2, _), (0, _), (1, _)]) 1 d_Tb_fewestOf_79 rfl (nI_1 i) (by decide) rfl ?_
            refine z_goto 10 d_Tb_fewestOf_82 (by decide) ?_
            refine z_sub (L' := [(4, _), (3, _), (2, _), (0, _), (1, _)]) [0, 2, 3, 4, 5] rfl ?_
            exact ih_10 (i + 1) _ (by omega) (by omega)
          · skip
            refine z_aload_n 4 d_Tb_fewestOf_49 rfl rfl ?_
            refine z_iload 1 d_Tb_fewestOf_50 rfl ?_
            refine z_callVp0 (m_Tb_zonesOf hs0 hst hT (nI i)) ym_Tb_zonesOf qM_Tb_354 qI_Tb_zonesOf qV_Tb_Tb_zonesOf zc_Tb hG_Tb d_Tb_fewestOf_52 rfl (Nat.le_of_ble_eq_true rfl) ⟨Nat.zero_le _, Nat.zero_le _⟩ ⟨Nat.le_of_ble_eq_true rfl, Nat.le_of_ble_eq_true rfl⟩ (fun r_52 G_52 hp_52 => ?_)
            obtain ⟨⟨v_52, rfl⟩, rfl⟩ := hp_52
            refine z_aload_n 5 d_Tb_fewestOf_55 rfl rfl ?_
            refine z_get zc_Se 1 (by decide) qF_Tb_357 hG_Se rfl d_Tb_fewestOf_56 ?_
            refine z_icmp_lt 79 d_Tb_fewestOf_59 (by decide) (fun c_59 => ?_) (fun c_59 => ?_)
            · skip
              refine z_iinc (v := nI (i + 1)) (L' := [(4, _), (5, _), (3, _), (2, _), (0, _), (1, _)]) 1 d_Tb_fewestOf_79 rfl (nI_1 i) (by decide) rfl ?_
              refine z_goto 10 d_Tb_fewestOf_82 (by decide) ?_
              refine z_sub (L' := [(4, _), (3, _), (2, _), (0, _), (1, _)]) [0, 2, 3, 4, 5] rfl ?_
              exact ih_10 (i + 1) _ (by omega) (by omega)
            · skip
              refine z_iload_n 2 d_Tb_fewestOf_62 rfl rfl ?_
              refine z_if_eq 76 d_Tb_fewestOf_63 (by decide) (fun c_63 => ?_) (fun c_63 => ?_)
              · skip
                refine z_iload 1 d_Tb_fewestOf_76 rfl ?_
                refine z_istore_n (L' := [(3, _), (5, _), (4, _), (2, _), (0, _), (1, _)]) d_Tb_fewestOf_78 rfl (by decide) rfl ?_
                refine z_iinc (v := nI (i + 1)) (L' := [(4, _), (3, _), (5, _), (2, _), (0, _), (1, _)]) 2 d_Tb_fewestOf_79 rfl (nI_1 i) (by decide) rfl ?_
                refine z_goto 10 d_Tb_fewestOf_82 (by decide) ?_
                refine z_sub (L' := [(4, _), (3, _), (2, _), (0, _), (1, _)]) [0, 1, 3, 4, 5] rfl ?_
                exact ih_10 (i + 1) _ (by omega) (by omega)
              · skip
                refine z_aload_n 4 d_Tb_fewestOf_66 rfl rfl ?_
                refine z_iload 1 d_Tb_fewestOf_67 rfl ?_
                refine z_iload_n 2 d_Tb_fewestOf_69 rfl rfl ?_
                refine z_callVp0 (m_Tb_isLess hs0 hst hT (nI i) v) ym_Tb_isLess qM_Tb_369 qI_Tb_isLess qV_Tb_Tb_isLess zc_Tb hG_Tb d_Tb_fewestOf_70 rfl (Nat.le_of_ble_eq_true rfl) ⟨Nat.zero_le _, Nat.zero_le _⟩ ⟨Nat.le_of_ble_eq_true rfl, Nat.le_of_ble_eq_true rfl⟩ (fun r_70 G_70 hp_70 => ?_)
                obtain ⟨⟨b_70, rfl⟩, rfl⟩ := hp_70
                refine z_if_eq 79 d_Tb_fewestOf_73 (by decide) (fun c_73 => ?_) (fun c_73 => ?_)
                · skip
                  refine z_iinc (v := nI (i + 1)) (L' := [(4, _), (5, _), (3, _), (2, _), (0, _), (1, _)]) 1 d_Tb_fewestOf_79 rfl (nI_1 i) (by decide) rfl ?_
                  refine z_goto 10 d_Tb_fewestOf_82 (by decide) ?_
                  refine z_sub (L' := [(4, _), (3, _), (2, _), (0, _), (1, _)]) [0, 2, 3, 4, 5] rfl ?_
                  exact ih_10 (i + 1) _ (by omega) (by omega)
                · skip
                  refine z_iload 1 d_Tb_fewestOf_76 rfl ?_
                  refine z_istore_n (L' := [(3, _), (5, _), (4, _), (2, _), (0, _), (1, _)]) d_Tb_fewestOf_78 rfl (by decide) rfl ?_
                  refine z_iinc (v := nI (i + 1)) (L' := [(4, _), (3, _), (5, _), (2, _), (0, _), (1, _)]) 2 d_Tb_fewestOf_79 rfl (nI_1 i) (by decide) rfl ?_
                  refine z_goto 10 d_Tb_fewestOf_82 (by decide) ?_
                  refine z_sub (L' := [(4, _), (3, _), (2, _), (0, _), (1, _)]) [0, 1, 3, 4, 5] rfl ?_
                  exact ih_10 (i + 1) _ (by omega) (by omega)
        · skip
          refine z_iload 0 d_Tb_fewestOf_25 rfl ?_
          refine z_callS0 (m_In_bitCount hs0 hst _) ym_In_bitCount qM_Tb_105 qS_In_bitCount d_Tb_fewestOf_27 rfl (Nat.le_of_ble_eq_true rfl) ⟨Nat.zero_le _, Nat.zero_le _⟩ ⟨Nat.le_of_ble_eq_true rfl, Nat.le_of_ble_eq_true rfl⟩ ?_
          refine z_aload_n 4 d_Tb_fewestOf_30 rfl rfl ?_
          refine z_get zc_Se 0 (by decide) qF_Tb_147 hG_Se rfl d_Tb_fewestOf_31 ?_
          refine z_icmp_lt 41 d_Tb_fewestOf_34 (by decide) (fun c_34 => ?_) (fun c_34 => ?_)
          · skip
            refine z_iconst (v := 0) d_Tb_fewestOf_41 (by decide) ?_
            refine z_istore (L' := [(5, _), (4, _), (3, _), (2, _), (0, _), (1, _)]) d_Tb_fewestOf_42 (by decide) rfl ?_
            refine z_iload 0 d_Tb_fewestOf_44 rfl ?_
            refine z_if_eq 79 d_Tb_fewestOf_46 (by decide) (fun c_46 => ?_) (fun c_46 => ?_)
            · skip
              refine z_iinc (v := nI (i + 1)) (L' := [(4, _), (5, _), (3, _), (2, _), (0, _), (1, _)]) 1 d_Tb_fewestOf_79 rfl (nI_1 i) (by decide) rfl ?_
              refine z_goto 10 d_Tb_fewestOf_82 (by decide) ?_
              refine z_sub (L' := [(4, _), (3, _), (2, _), (0, _), (1, _)]) [0, 2, 3, 4, 5] rfl ?_
              exact ih_10 (i + 1) _ (by omega) (by omega)
            · skip
              refine z_aload_n 4 d_Tb_fewestOf_49 rfl rfl ?_
              refine z_iload 1 d_Tb_fewestOf_50 rfl ?_
              refine z_callVp0 (m_Tb_zonesOf hs0 hst hT (nI i)) ym_Tb_zonesOf qM_Tb_354 qI_Tb_zonesOf qV_Tb_Tb_zonesOf zc_Tb hG_Tb d_Tb_fewestOf_52 rfl (Nat.le_of_ble_eq_true rfl) ⟨Nat.zero_le _, Nat.zero_le _⟩ ⟨Nat.le_of_ble_eq_true rfl, Nat.le_of_ble_eq_true rfl⟩ (fun r_52 G_52 hp_52 => ?_)
              obtain ⟨⟨v_52, rfl⟩, rfl⟩ := hp_52
              refine z_aload_n 5 d_Tb_fewestOf_55 rfl rfl ?_
              refine z_get zc_Se 1 (by decide) qF_Tb_357 hG_Se rfl d_Tb_fewestOf_56 ?_
              refine z_icmp_lt 79 d_Tb_fewestOf_59 (by decide) (fun c_59 => ?_) (fun c_59 => ?_)
              · skip
                refine z_iinc (v := nI (i + 1)) (L' := [(4, _), (5, _), (3, _), (2, _), (0, _), (1, _)]) 1 d_Tb_fewestOf_79 rfl (nI_1 i) (by decide) rfl ?_
                refine z_goto 10 d_Tb_fewestOf_82 (by decide) ?_
                refine z_sub (L' := [(4, _), (3, _), (2, _), (0, _), (1, _)]) [0, 2, 3, 4, 5] rfl ?_
                exact ih_10 (i + 1) _ (by omega) (by omega)
              · skip
                refine z_iload_n 2 d_Tb_fewestOf_62 rfl rfl ?_
                refine z_if_eq 76 d_Tb_fewestOf_63 (by decide) (fun c_63 => ?_) (fun c_63 => ?_)
                · skip
                  refine z_iload 1 d_Tb_fewestOf_76 rfl ?_
                  refine z_istore_n (L' := [(3, _), (5, _), (4, _), (2, _), (0, _), (1, _)]) d_Tb_fewestOf_78 rfl (by decide) rfl ?_
                  refine z_iinc (v := nI (i + 1)) (L' := [(4, _), (3, _), (5, _), (2, _), (0, _), (1, _)]) 2 d_Tb_fewestOf_79 rfl (nI_1 i) (by decide) rfl ?_
                  refine z_goto 10 d_Tb_fewestOf_82 (by decide) ?_
                  refine z_sub (L' := [(4, _), (3, _), (2, _), (0, _), (1, _)]) [0, 1, 3, 4, 5] rfl ?_
                  exact ih_10 (i + 1) _ (by omega) (by omega)
                · skip
                  refine z_aload_n 4 d_Tb_fewestOf_66 rfl rfl ?_
                  refine z_iload 1 d_Tb_fewestOf_67 rfl ?_
                  refine z_iload_n 2 d_Tb_fewestOf_69 rfl rfl ?_
                  refine z_callVp0 (m_Tb_isLess hs0 hst hT (nI i) v) ym_Tb_isLess qM_Tb_369 qI_Tb_isLess qV_Tb_Tb_isLess zc_Tb hG_Tb d_Tb_fewestOf_70 rfl (Nat.le_of_ble_eq_true rfl) ⟨Nat.zero_le _, Nat.zero_le _⟩ ⟨Nat.le_of_ble_eq_true rfl, Nat.le_of_ble_eq_true rfl⟩ (fun r_70 G_70 hp_70 => ?_)
                  obtain ⟨⟨b_70, rfl⟩, rfl⟩ := hp_70
                  refine z_if_eq 79 d_Tb_fewestOf_73 (by decide) (fun c_73 => ?_) (fun c_73 => ?_)
                  · skip
                    refine z_iinc (v := nI (i + 1)) (L' := [(4, _), (5, _), (3, _), (2, _), (0, _), (1, _)]) 1 d_Tb_fewestOf_79 rfl (nI_1 i) (by decide) rfl ?_
                    refine z_goto 10 d_Tb_fewestOf_82 (by decide) ?_
                    refine z_sub (L' := [(4, _), (3, _), (2, _), (0, _), (1, _)]) [0, 2, 3, 4, 5] rfl ?_
                    exact ih_10 (i + 1) _ (by omega) (by omega)
                  · skip
                    refine z_iload 1 d_Tb_fewestOf_76 rfl ?_
                    refine z_istore_n (L' := [(3, _), (5, _), (4, _), (2, _), (0, _), (1, _)]) d_Tb_fewestOf_78 rfl (by decide) rfl ?_
                    refine z_iinc (v := nI (i + 1)) (L' := [(4, _), (3, _), (5, _), (2, _), (0, _), (1, _)]) 2 d_Tb_fewestOf_79 rfl (nI_1 i) (by decide) rfl ?_
                    refine z_goto 10 d_Tb_fewestOf_82 (by decide) ?_
                    refine z_sub (L' := [(4, _), (3, _), (2, _), (0, _), (1, _)]) [0, 1, 3, 4, 5] rfl ?_
                    exact ih_10 (i + 1) _ (by omega) (by omega)
          · skip
            refine z_iconst (v := 1) d_Tb_fewestOf_37 (by decide) ?_
            refine z_goto 42 d_Tb_fewestOf_38 (by decide) ?_
            refine z_istore (L' := [(5, _), (4, _), (3, _), (2, _), (0, _), (1, _)]) d_Tb_fewestOf_42 (by decide) rfl ?_
            refine z_iload 0 d_Tb_fewestOf_44 rfl ?_
            refine z_if_eq 79 d_Tb_fewestOf_46 (by decide) (fun c_46 => ?_) (fun c_46 => ?_)
            · skip
              refine z_iinc (v := nI (i + 1)) (L' := [(4, _), (5, _), (3, _), (2, _), (0, _), (1, _)]) 1 d_Tb_fewestOf_79 rfl (nI_1 i) (by decide) rfl ?_
              refine z_goto 10 d_Tb_fewestOf_82 (by decide) ?_
              refine z_sub (L' := [(4, _), (3, _), (2, _), (0, _), (1, _)]) [0, 2, 3, 4, 5] rfl ?_
              exact ih_10 (i + 1) _ (by omega) (by omega)
            · skip
              refine z_aload_n 4 d_Tb_fewestOf_49 rfl rfl ?_
              refine z_iload 1 d_Tb_fewestOf_50 rfl ?_
              refine z_callVp0 (m_Tb_zonesOf hs0 hst hT (nI i)) ym_Tb_zonesOf qM_Tb_354 qI_Tb_zonesOf qV_Tb_Tb_zonesOf zc_Tb hG_Tb d_Tb_fewestOf_52 rfl (Nat.le_of_ble_eq_true rfl) ⟨Nat.zero_le _, Nat.zero_le _⟩ ⟨Nat.le_of_ble_eq_true rfl, Nat.le_of_ble_eq_true rfl⟩ (fun r_52 G_52 hp_52 => ?_)
              obtain ⟨⟨v_52, rfl⟩, rfl⟩ := hp_52
              refine z_aload_n 5 d_Tb_fewestOf_55 rfl rfl ?_
              refine z_get zc_Se 1 (by decide) qF_Tb_357 hG_Se rfl d_Tb_fewestOf_56 ?_
              refine z_icmp_lt 79 d_Tb_fewestOf_59 (by decide) (fun c_59 => ?_) (fun c_59 => ?_)
              · skip
                refine z_iinc (v := nI (i + 1)) (L' := [(4, _), (5, _), (3, _), (2, _), (0, _), (1, _)]) 1 d_Tb_fewestOf_79 rfl (nI_1 i) (by decide) rfl ?_
                refine z_goto 10 d_Tb_fewestOf_82 (by decide) ?_
                refine z_sub (L' := [(4, _), (3, _), (2, _), (0, _), (1, _)]) [0, 2, 3, 4, 5] rfl ?_
                exact ih_10 (i + 1) _ (by omega) (by omega)
              · skip
                refine z_iload_n 2 d_Tb_fewestOf_62 rfl rfl ?_
                refine z_if_eq 76 d_Tb_fewestOf_63 (by decide) (fun c_63 => ?_) (fun c_63 => ?_)
                · skip
                  refine z_iload 1 d_Tb_fewestOf_76 rfl ?_
                  refine z_istore_n (L' := [(3, _), (5, _), (4, _), (2, _), (0, _), (1, _)]) d_Tb_fewestOf_78 rfl (by decide) rfl ?_
                  refine z_iinc (v := nI (i + 1)) (L' := [(4, _), (3, _), (5, _), (2, _), (0, _), (1, _)]) 2 d_Tb_fewestOf_79 rfl (nI_1 i) (by decide) rfl ?_
                  refine z_goto 10 d_Tb_fewestOf_82 (by decide) ?_
                  refine z_sub (L' := [(4, _), (3, _), (2, _), (0, _), (1, _)]) [0, 1, 3, 4, 5] rfl ?_
                  exact ih_10 (i + 1) _ (by omega) (by omega)
                · skip
                  refine z_aload_n 4 d_Tb_fewestOf_66 rfl rfl ?_
                  refine z_iload 1 d_Tb_fewestOf_67 rfl ?_
                  refine z_iload_n 2 d_Tb_fewestOf_69 rfl rfl ?_
                  refine z_callVp0 (m_Tb_isLess hs0 hst hT (nI i) v) ym_Tb_isLess qM_Tb_369 qI_Tb_isLess qV_Tb_Tb_isLess zc_Tb hG_Tb d_Tb_fewestOf_70 rfl (Nat.le_of_ble_eq_true rfl) ⟨Nat.zero_le _, Nat.zero_le _⟩ ⟨Nat.le_of_ble_eq_true rfl, Nat.le_of_ble_eq_true rfl⟩ (fun r_70 G_70 hp_70 => ?_)
                  obtain ⟨⟨b_70, rfl⟩, rfl⟩ := hp_70
                  refine z_if_eq 79 d_Tb_fewestOf_73 (by decide) (fun c_73 => ?_) (fun c_73 => ?_)
                  · skip
                    refine z_iinc (v := nI (i + 1)) (L' := [(4, _), (5, _), (3, _), (2, _), (0, _), (1, _)]) 1 d_Tb_fewestOf_79 rfl (nI_1 i) (by decide) rfl ?_
                    refine z_goto 10 d_Tb_fewestOf_82 (by decide) ?_
                    refine z_sub (L' := [(4, _), (3, _), (2, _), (0, _), (1, _)]) [0, 2, 3, 4, 5] rfl ?_
                    exact ih_10 (i + 1) _ (by omega) (by omega)
                  · skip
                    refine z_iload 1 d_Tb_fewestOf_76 rfl ?_
                    refine z_istore_n (L' := [(3, _), (5, _), (4, _), (2, _), (0, _), (1, _)]) d_Tb_fewestOf_78 rfl (by decide) rfl ?_
                    refine z_iinc (v := nI (i + 1)) (L' := [(4, _), (3, _), (5, _), (2, _), (0, _), (1, _)]) 2 d_Tb_fewestOf_79 rfl (nI_1 i) (by decide) rfl ?_
                    refine z_goto 10 d_Tb_fewestOf_82 (by decide) ?_
                    refine z_sub (L' := [(4, _), (3, _), (2, _), (0, _), (1, _)]) [0, 1, 3, 4, 5] rfl ?_
                    exact ih_10 (i + 1) _ (by omega) (by omega)
  exact key_10 (hq + 2) 1 _ (by omega) (by omega)
