
def zrD : Option Value → Prop := fun r => ∃ v : UInt64, r = some (.double v) ∧ zmg v 1400
section ZTV
variable {d : zD} {A : Nat → Nat} {D : Nat → UInt64} {V : Nat → Nat → Int32} {nk ns : Nat} {G G1 : zG}
theorem zT.dec (h : zT d A D V nk ns G) : ∃ q, q < 512 ∧ zGr d (A 12) (A 13) (A 14) (V 13) (V 14) (V 12 0) (nI q) (V 12 2) (V 12 3) G := by
  obtain ⟨q, hq, e⟩ := h.2.2.2.1
  exact ⟨q, hq, by rw [← e]; exact h.gA⟩
theorem zT.rN (h : zT d A D V nk ns G) : ∃ c, c ≤ 64 ∧ V 5 0 = nI c ∧ zRe d (A 5) (A 6) (A 7) (A 8) (A 9) (V 6) (V 7) (V 8) (V 9) (nI c) G := by
  obtain ⟨q, hq, e⟩ := h.2.2.2.2.1
  exact ⟨q, hq, e, by rw [← e]; exact h.rA⟩
end ZTV

theorem d_Tb_gatherGroup_0 : decode c_Tb_gatherGroup 0 = .ok (.aload_n 0, 1) := by decide +kernel
theorem d_Tb_gatherGroup_1 : decode c_Tb_gatherGroup 1 = .ok (.getfield 36, 3) := by decide +kernel
theorem d_Tb_gatherGroup_4 : decode c_Tb_gatherGroup 4 = .ok (.aload_n 1, 1) := by decide +kernel
theorem d_Tb_gatherGroup_5 : decode c_Tb_gatherGroup 5 = .ok (.getfield 147, 3) := by decide +kernel
theorem d_Tb_gatherGroup_8 : decode c_Tb_gatherGroup 8 = .ok (.invokevirtual 351, 3) := by decide +kernel
theorem d_Tb_gatherGroup_11 : decode c_Tb_gatherGroup 11 = .ok (.iconst 0, 1) := by decide +kernel
theorem d_Tb_gatherGroup_12 : decode c_Tb_gatherGroup 12 = .ok (.istore_n 3, 1) := by decide +kernel
theorem d_Tb_gatherGroup_13 : decode c_Tb_gatherGroup 13 = .ok (.iload_n 3, 1) := by decide +kernel
theorem d_Tb_gatherGroup_14 : decode c_Tb_gatherGroup 14 = .ok (.aload_n 0, 1) := by decide +kernel
theorem d_Tb_gatherGroup_15 : decode c_Tb_gatherGroup 15 = .ok (.getfield 10, 3) := by decide +kernel
theorem d_Tb_gatherGroup_18 : decode c_Tb_gatherGroup 18 = .ok (.invokevirtual 68, 3) := by decide +kernel
theorem d_Tb_gatherGroup_21 : decode c_Tb_gatherGroup 21 = .ok (.if_icmp .ge 56, 3) := by decide +kernel
theorem d_Tb_gatherGroup_24 : decode c_Tb_gatherGroup 24 = .ok (.iload_n 2, 1) := by decide +kernel
theorem d_Tb_gatherGroup_25 : decode c_Tb_gatherGroup 25 = .ok (.iload_n 3, 1) := by decide +kernel
theorem d_Tb_gatherGroup_26 : decode c_Tb_gatherGroup 26 = .ok (.invokestatic 124, 3) := by decide +kernel
theorem d_Tb_gatherGroup_29 : decode c_Tb_gatherGroup 29 = .ok (.ifCond .eq 42, 3) := by decide +kernel
theorem d_Tb_gatherGroup_32 : decode c_Tb_gatherGroup 32 = .ok (.aload_n 1, 1) := by decide +kernel
theorem d_Tb_gatherGroup_33 : decode c_Tb_gatherGroup 33 = .ok (.iload_n 3, 1) := by decide +kernel
theorem d_Tb_gatherGroup_34 : decode c_Tb_gatherGroup 34 = .ok (.invokevirtual 179, 3) := by decide +kernel
theorem d_Tb_gatherGroup_37 : decode c_Tb_gatherGroup 37 = .ok (.ifCond .eq 34, 3) := by decide +kernel
theorem d_Tb_gatherGroup_40 : decode c_Tb_gatherGroup 40 = .ok (.aload_n 0, 1) := by decide +kernel
theorem d_Tb_gatherGroup_41 : decode c_Tb_gatherGroup 41 = .ok (.getfield 36, 3) := by decide +kernel
theorem d_Tb_gatherGroup_44 : decode c_Tb_gatherGroup 44 = .ok (.iload_n 3, 1) := by decide +kernel
theorem d_Tb_gatherGroup_45 : decode c_Tb_gatherGroup 45 = .ok (.invokestatic 128, 3) := by decide +kernel
theorem d_Tb_gatherGroup_48 : decode c_Tb_gatherGroup 48 = .ok (.aload_n 1, 1) := by decide +kernel
theorem d_Tb_gatherGroup_49 : decode c_Tb_gatherGroup 49 = .ok (.iload_n 3, 1) := by decide +kernel
theorem d_Tb_gatherGroup_50 : decode c_Tb_gatherGroup 50 = .ok (.invokevirtual 155, 3) := by decide +kernel
theorem d_Tb_gatherGroup_53 : decode c_Tb_gatherGroup 53 = .ok (.aload_n 0, 1) := by decide +kernel
theorem d_Tb_gatherGroup_54 : decode c_Tb_gatherGroup 54 = .ok (.getfield 10, 3) := by decide +kernel
theorem d_Tb_gatherGroup_57 : decode c_Tb_gatherGroup 57 = .ok (.iload_n 3, 1) := by decide +kernel
theorem d_Tb_gatherGroup_58 : decode c_Tb_gatherGroup 58 = .ok (.invokevirtual 166, 3) := by decide +kernel
theorem d_Tb_gatherGroup_61 : decode c_Tb_gatherGroup 61 = .ok (.checkcast 77, 3) := by decide +kernel
theorem d_Tb_gatherGroup_64 : decode c_Tb_gatherGroup 64 = .ok (.getfield 96, 3) := by decide +kernel
theorem d_Tb_gatherGroup_67 : decode c_Tb_gatherGroup 67 = .ok (.iadd, 1) := by decide +kernel
theorem d_Tb_gatherGroup_68 : decode c_Tb_gatherGroup 68 = .ok (.invokevirtual 288, 3) := by decide +kernel
theorem d_Tb_gatherGroup_71 : decode c_Tb_gatherGroup 71 = .ok (.iinc 3 1, 3) := by decide +kernel
theorem d_Tb_gatherGroup_74 : decode c_Tb_gatherGroup 74 = .ok (.goto (-61), 3) := by decide +kernel
theorem d_Tb_gatherGroup_77 : decode c_Tb_gatherGroup 77 = .ok (.return_, 1) := by decide +kernel
set_option maxHeartbeats 4000000 in
set_option maxRecDepth 100000 in
theorem m_Tb_gatherGroup {g0 : State} {d : zD} {l : Launch} {a0 : Array Value} (hs0 : zS0 d a0 g0) (hst : l.stackTraces = false) {G : zG} {A : Nat → Nat} {D : Nat → UInt64} {V : Nat → Nat → Int32} {nk ns : Nat} (hT : zT d A D V nk ns G) {si : Nat} (hsi : si < ns) (set : Int32) : zMet g0 d l y_Tb_gatherGroup c_Tb_gatherGroup 4 ((Option.none : Option Jvm.ClassFile.FieldType)) 11 0 0 [.ref (A 0), .ref (A (200 + si)), .int set] (G) (zTu d A nk ns V G zrN) (zNo) := by
  have hG_Tb := hT.tb
  have hnk : nk ≤ 8 := hT.2.1
  have hns : ns ≤ 6 := hT.2.2.1
  refine z_entry hs0 hst (by decide) (Nat.le_of_ble_eq_true rfl) (fun p e s m args below meth c => ?_)
  refine z_aload_n 0 d_Tb_gatherGroup_0 rfl rfl ?_
  refine z_get zc_Tb 4 (by decide) qF_Tb_36 hT.tb rfl d_Tb_gatherGroup_1 ?_
  refine z_aload_n 1 d_Tb_gatherGroup_4 rfl rfl ?_
  refine z_get zc_Se 0 (by decide) qF_Tb_147 (hT.se hsi).1 rfl d_Tb_gatherGroup_5 ?_
  refine z_callVp0 (m_Gr_begin hs0 hst hT.gA _) ym_Gr_begin qM_Tb_351 qI_Gr_begin qV_Gr_Gr_begin zc_Gr hT.gr d_Tb_gatherGroup_8 rfl (Nat.le_of_ble_eq_true rfl) ⟨Nat.zero_le _, Nat.zero_le _⟩ ⟨Nat.le_of_ble_eq_true rfl, Nat.le_of_ble_eq_true rfl⟩ (fun r_8 G_8 hp_8 => ?_)
  obtain ⟨hr_8, hg_8⟩ := hp_8
  obtain rfl : r_8 = none := hr_8
  obtain ⟨V1, hT1, hK1, hF1⟩ := hT.putg (V (200 + si) 0) 0 0 (p := 0) ⟨0, by decide, nI_0.symm⟩
  rw [← hg_8] at hT1 hF1
  refine z_iconst (v := (nI 0)) d_Tb_gatherGroup_11 (by decide) ?_
  refine z_istore_n (L' := [(3, _), (0, _), (1, _), (2, _)]) d_Tb_gatherGroup_12 rfl (by decide) rfl ?_
  have key_13 : ∀ (n : Nat) (i : Nat) (G2 : zG) (D2 : Nat → UInt64) (V2 : Nat → Nat → Int32) , nk - i < n → (i ≤ nk) → (zT d A D2 V2 nk ns G2) → (zKo V V2) → (tFr A nk ns G G2) → Z g0 d y_Tb_gatherGroup c_Tb_gatherGroup 4 ((Option.none : Option Jvm.ClassFile.FieldType)) [] p l e (zR 11 0 0) s m args below meth c (vx_MQ below (zQc g0 d (zTu d A nk ns V G zrN)) (zXc g0 d (zNo)) args s 0 0 (zA g0)) 0 0 (G2) [(3, .int (nI i)), (0, .ref (A 0)), (1, .ref (A (200 + si))), (2, .int set)] [] 13 := by
    intro n
    induction n with
    | zero => intro i G2 D2 V2  h0; exact absurd h0 (Nat.not_lt_zero _)
    | succ n ih_13 =>
      intro i G2 D2 V2  hm_13 hi hT2 hK2 hF2
      refine z_iload_n 0 d_Tb_gatherGroup_13 rfl rfl ?_
      refine z_aload_n 1 d_Tb_gatherGroup_14 rfl rfl ?_
      refine z_get zc_Tb 0 (by decide) qF_Tb_10 hT2.tb rfl d_Tb_gatherGroup_15 ?_
      refine z_callV0 (m_AL_size hs0 hst hT2.kl) ym_AL_size qM_Tb_68 qI_AL_size qV_AL_AL_size zc_AL hT2.kl d_Tb_gatherGroup_18 rfl (Nat.le_of_ble_eq_true rfl) ⟨Nat.zero_le _, Nat.zero_le _⟩ ⟨Nat.le_of_ble_eq_true rfl, Nat.le_of_ble_eq_true rfl⟩ ?_
      refine z_icmp_ge 77 d_Tb_gatherGroup_21 (by decide) (fun c_21 => ?_) (fun c_21 => ?_)
      · skip
        exact z_vret rfl (⟨rfl, _, _, hT2, hK2, hF2⟩) (by first | decide | omega) (by first | decide | omega) d_Tb_gatherGroup_77
      · skip
        have hi6 : i < nk := Nat.lt_of_not_le fun q => c_21 (nI_le q (by omega))
        refine z_iload_n 3 d_Tb_gatherGroup_24 rfl rfl ?_
        refine z_iload_n 0 d_Tb_gatherGroup_25 rfl rfl ?_
        refine z_callS0 (m_Tb_isIn hs0 hst set (nI i)) ym_Tb_isIn qM_Tb_124 qS_Tb_isIn d_Tb_gatherGroup_26 rfl (Nat.le_of_ble_eq_true rfl) ⟨Nat.zero_le _, Nat.zero_le _⟩ ⟨Nat.le_of_ble_eq_true rfl, Nat.le_of_ble_eq_true rfl⟩ ?_
        refine z_if_eq 71 d_Tb_gatherGroup_29 (by decide) (fun c_29 => ?_) (fun c_29 => ?_)
        · skip
          refine z_iinc (v := nI (i + 1)) (L' := [(3, _), (0, _), (1, _), (2, _)]) 0 d_Tb_gatherGroup_71 rfl (nI_1 i) (by decide) rfl ?_
          refine z_goto 13 d_Tb_gatherGroup_74 (by decide) ?_
          exact ih_13 (i + 1) _ _ _ (by omega) (by omega) (by first | exact hT3 | exact hT2) (by first | exact hK2.tr hK3 | exact hK2) (by first | exact hF2.tr hF3 | exact hF2)
        · skip
          refine z_aload_n 2 d_Tb_gatherGroup_32 rfl rfl ?_
          refine z_iload_n 0 d_Tb_gatherGroup_33 rfl rfl ?_
          refine z_callV0 (m_Se_isCurrent hs0 hst (hT2.se hsi) (show i < 8 by omega)) ym_Se_isCurrent qM_Tb_179 qI_Se_isCurrent qV_Se_Se_isCurrent zc_Se (hT2.se hsi).1 d_Tb_gatherGroup_34 rfl (Nat.le_of_ble_eq_true rfl) ⟨Nat.zero_le _, Nat.zero_le _⟩ ⟨Nat.le_of_ble_eq_true rfl, Nat.le_of_ble_eq_true rfl⟩ ?_
          refine z_if_eq 71 d_Tb_gatherGroup_37 (by decide) (fun c_37 => ?_) (fun c_37 => ?_)
          · skip
            refine z_iinc (v := nI (i + 1)) (L' := [(3, _), (0, _), (1, _), (2, _)]) 0 d_Tb_gatherGroup_71 rfl (nI_1 i) (by decide) rfl ?_
            refine z_goto 13 d_Tb_gatherGroup_74 (by decide) ?_
            exact ih_13 (i + 1) _ _ _ (by omega) (by omega) (by first | exact hT3 | exact hT2) (by first | exact hK2.tr hK3 | exact hK2) (by first | exact hF2.tr hF3 | exact hF2)
          · skip
            refine z_aload_n 1 d_Tb_gatherGroup_40 rfl rfl ?_
            refine z_get zc_Tb 4 (by decide) qF_Tb_36 hT2.tb rfl d_Tb_gatherGroup_41 ?_
            refine z_iload_n 0 d_Tb_gatherGroup_44 rfl rfl ?_
            refine z_callS0 (m_Tb_pointOf hs0 hst (nI i)) ym_Tb_pointOf qM_Tb_128 qS_Tb_pointOf d_Tb_gatherGroup_45 rfl (Nat.le_of_ble_eq_true rfl) ⟨Nat.zero_le _, Nat.zero_le _⟩ ⟨Nat.le_of_ble_eq_true rfl, Nat.le_of_ble_eq_true rfl⟩ ?_
            refine z_topv (nI_1 i) ?_
            refine z_aload_n 2 d_Tb_gatherGroup_48 rfl rfl ?_
            refine z_iload_n 0 d_Tb_gatherGroup_49 rfl rfl ?_
            refine z_callV0 (m_Se_shareOf hs0 hst (hT2.se hsi) (show i < 8 by omega)) ym_Se_shareOf qM_Tb_155 qI_Se_shareOf qV_Se_Se_shareOf zc_Se (hT2.se hsi).1 d_Tb_gatherGroup_50 rfl (Nat.le_of_ble_eq_true rfl) ⟨Nat.zero_le _, Nat.zero_le _⟩ ⟨Nat.le_of_ble_eq_true rfl, Nat.le_of_ble_eq_true rfl⟩ ?_
            refine z_aload_n 1 d_Tb_gatherGroup_53 rfl rfl ?_
            refine z_get zc_Tb 0 (by decide) qF_Tb_10 hT2.tb rfl d_Tb_gatherGroup_54 ?_
            refine z_iload_n 0 d_Tb_gatherGroup_57 rfl rfl ?_
            refine z_callV0 (m_AL_get hs0 hst (hT2.kA hi6) hi6 (if_pos hi6)) ym_AL_get qM_Tb_166 qI_AL_get qV_AL_AL_get zc_AL (hT2.kA hi6).1 d_Tb_gatherGroup_58 rfl (Nat.le_of_ble_eq_true rfl) ⟨Nat.zero_le _, Nat.zero_le _⟩ ⟨Nat.le_of_ble_eq_true rfl, Nat.le_of_ble_eq_true rfl⟩ ?_
            refine z_castS zc_Ke qK_Tb_77 (hT2.ke hi6) d_Tb_gatherGroup_61 ?_
            refine z_get zc_Ke 4 (by decide) qF_Tb_96 (hT2.ke hi6) rfl d_Tb_gatherGroup_64 ?_
            refine z_iadd d_Tb_gatherGroup_67 ?_
            refine z_callVp0 (m_Gr_give hs0 hst hT2.gA (show i + 1 < 9 by omega) _) ym_Gr_give qM_Tb_288 qI_Gr_give qV_Gr_Gr_give zc_Gr hT2.gr d_Tb_gatherGroup_68 rfl (Nat.le_of_ble_eq_true rfl) ⟨Nat.zero_le _, Nat.zero_le _⟩ ⟨Nat.le_of_ble_eq_true rfl, Nat.le_of_ble_eq_true rfl⟩ (fun r_68 G_68 hp_68 => ?_)
            obtain ⟨hr_68, hg_68⟩ := hp_68
            obtain rfl : r_68 = none := hr_68
            obtain ⟨V3, hT3, hK3, hF3⟩ := hT2.give (k := i + 1) (by omega) (V2 (300 + si) i + V2 (100 + i) 4)
            rw [← hg_68] at hT3 hF3
            refine z_iinc (v := nI (i + 1)) (L' := [(3, _), (0, _), (1, _), (2, _)]) 0 d_Tb_gatherGroup_71 rfl (nI_1 i) (by decide) rfl ?_
            refine z_goto 13 d_Tb_gatherGroup_74 (by decide) ?_
            exact ih_13 (i + 1) _ _ _ (by omega) (by omega) (by first | exact hT3 | exact hT2) (by first | exact hK2.tr hK3 | exact hK2) (by first | exact hF2.tr hF3 | exact hF2)
  exact key_13 (nk + 1) 0 _ _ _ (by omega) (by omega) hT1 hK1 hF1
theorem d_Tb_isSecretSound_0 : decode c_Tb_isSecretSound 0 = .ok (.aload_n 0, 1) := by decide +kernel
theorem d_Tb_isSecretSound_1 : decode c_Tb_isSecretSound 1 = .ok (.getfield 36, 3) := by decide +kernel
theorem d_Tb_isSecretSound_4 : decode c_Tb_isSecretSound 4 = .ok (.aload_n 1, 1) := by decide +kernel
theorem d_Tb_isSecretSound_5 : decode c_Tb_isSecretSound 5 = .ok (.getfield 147, 3) := by decide +kernel
theorem d_Tb_isSecretSound_8 : decode c_Tb_isSecretSound 8 = .ok (.invokevirtual 351, 3) := by decide +kernel
theorem d_Tb_isSecretSound_11 : decode c_Tb_isSecretSound 11 = .ok (.iconst 0, 1) := by decide +kernel
theorem d_Tb_isSecretSound_12 : decode c_Tb_isSecretSound 12 = .ok (.istore_n 2, 1) := by decide +kernel
theorem d_Tb_isSecretSound_13 : decode c_Tb_isSecretSound 13 = .ok (.iload_n 2, 1) := by decide +kernel
theorem d_Tb_isSecretSound_14 : decode c_Tb_isSecretSound 14 = .ok (.bipush 8, 2) := by decide +kernel
theorem d_Tb_isSecretSound_16 : decode c_Tb_isSecretSound 16 = .ok (.if_icmp .ge 66, 3) := by decide +kernel
theorem d_Tb_isSecretSound_19 : decode c_Tb_isSecretSound 19 = .ok (.aload_n 1, 1) := by decide +kernel
theorem d_Tb_isSecretSound_20 : decode c_Tb_isSecretSound 20 = .ok (.iload_n 2, 1) := by decide +kernel
theorem d_Tb_isSecretSound_21 : decode c_Tb_isSecretSound 21 = .ok (.invokevirtual 270, 3) := by decide +kernel
theorem d_Tb_isSecretSound_24 : decode c_Tb_isSecretSound 24 = .ok (.ifCond .eq 28, 3) := by decide +kernel
theorem d_Tb_isSecretSound_27 : decode c_Tb_isSecretSound 27 = .ok (.aload_n 1, 1) := by decide +kernel
theorem d_Tb_isSecretSound_28 : decode c_Tb_isSecretSound 28 = .ok (.iload_n 2, 1) := by decide +kernel
theorem d_Tb_isSecretSound_29 : decode c_Tb_isSecretSound 29 = .ok (.invokevirtual 155, 3) := by decide +kernel
theorem d_Tb_isSecretSound_32 : decode c_Tb_isSecretSound 32 = .ok (.invokestatic 90, 3) := by decide +kernel
theorem d_Tb_isSecretSound_35 : decode c_Tb_isSecretSound 35 = .ok (.ifCond .eq 15, 3) := by decide +kernel
theorem d_Tb_isSecretSound_38 : decode c_Tb_isSecretSound 38 = .ok (.aload_n 1, 1) := by decide +kernel
theorem d_Tb_isSecretSound_39 : decode c_Tb_isSecretSound 39 = .ok (.iload_n 2, 1) := by decide +kernel
theorem d_Tb_isSecretSound_40 : decode c_Tb_isSecretSound 40 = .ok (.invokevirtual 395, 3) := by decide +kernel
theorem d_Tb_isSecretSound_43 : decode c_Tb_isSecretSound 43 = .ok (.aload_n 1, 1) := by decide +kernel
theorem d_Tb_isSecretSound_44 : decode c_Tb_isSecretSound 44 = .ok (.getfield 152, 3) := by decide +kernel
theorem d_Tb_isSecretSound_47 : decode c_Tb_isSecretSound 47 = .ok (.if_icmp .le 5, 3) := by decide +kernel
theorem d_Tb_isSecretSound_50 : decode c_Tb_isSecretSound 50 = .ok (.iconst 0, 1) := by decide +kernel
theorem d_Tb_isSecretSound_51 : decode c_Tb_isSecretSound 51 = .ok (.ireturn, 1) := by decide +kernel
theorem d_Tb_isSecretSound_52 : decode c_Tb_isSecretSound 52 = .ok (.aload_n 1, 1) := by decide +kernel
theorem d_Tb_isSecretSound_53 : decode c_Tb_isSecretSound 53 = .ok (.iload_n 2, 1) := by decide +kernel
theorem d_Tb_isSecretSound_54 : decode c_Tb_isSecretSound 54 = .ok (.invokevirtual 179, 3) := by decide +kernel
theorem d_Tb_isSecretSound_57 : decode c_Tb_isSecretSound 57 = .ok (.ifCond .eq 19, 3) := by decide +kernel
theorem d_Tb_isSecretSound_60 : decode c_Tb_isSecretSound 60 = .ok (.aload_n 0, 1) := by decide +kernel
theorem d_Tb_isSecretSound_61 : decode c_Tb_isSecretSound 61 = .ok (.getfield 36, 3) := by decide +kernel
theorem d_Tb_isSecretSound_64 : decode c_Tb_isSecretSound 64 = .ok (.iload_n 2, 1) := by decide +kernel
theorem d_Tb_isSecretSound_65 : decode c_Tb_isSecretSound 65 = .ok (.invokestatic 128, 3) := by decide +kernel
theorem d_Tb_isSecretSound_68 : decode c_Tb_isSecretSound 68 = .ok (.aload_n 1, 1) := by decide +kernel
theorem d_Tb_isSecretSound_69 : decode c_Tb_isSecretSound 69 = .ok (.iload_n 2, 1) := by decide +kernel
theorem d_Tb_isSecretSound_70 : decode c_Tb_isSecretSound 70 = .ok (.invokevirtual 155, 3) := by decide +kernel
theorem d_Tb_isSecretSound_73 : decode c_Tb_isSecretSound 73 = .ok (.invokevirtual 288, 3) := by decide +kernel
theorem d_Tb_isSecretSound_76 : decode c_Tb_isSecretSound 76 = .ok (.iinc 2 1, 3) := by decide +kernel
theorem d_Tb_isSecretSound_79 : decode c_Tb_isSecretSound 79 = .ok (.goto (-66), 3) := by decide +kernel
theorem d_Tb_isSecretSound_82 : decode c_Tb_isSecretSound 82 = .ok (.aload_n 1, 1) := by decide +kernel
theorem d_Tb_isSecretSound_83 : decode c_Tb_isSecretSound 83 = .ok (.getfield 206, 3) := by decide +kernel
theorem d_Tb_isSecretSound_86 : decode c_Tb_isSecretSound 86 = .ok (.ifCond .ne 13, 3) := by decide +kernel
theorem d_Tb_isSecretSound_89 : decode c_Tb_isSecretSound 89 = .ok (.aload_n 0, 1) := by decide +kernel
theorem d_Tb_isSecretSound_90 : decode c_Tb_isSecretSound 90 = .ok (.getfield 36, 3) := by decide +kernel
theorem d_Tb_isSecretSound_93 : decode c_Tb_isSecretSound 93 = .ok (.invokevirtual 291, 3) := by decide +kernel
theorem d_Tb_isSecretSound_96 : decode c_Tb_isSecretSound 96 = .ok (.ifCond .eq 7, 3) := by decide +kernel
theorem d_Tb_isSecretSound_99 : decode c_Tb_isSecretSound 99 = .ok (.iconst 1, 1) := by decide +kernel
theorem d_Tb_isSecretSound_100 : decode c_Tb_isSecretSound 100 = .ok (.goto 4, 3) := by decide +kernel
theorem d_Tb_isSecretSound_103 : decode c_Tb_isSecretSound 103 = .ok (.iconst 0, 1) := by decide +kernel
theorem d_Tb_isSecretSound_104 : decode c_Tb_isSecretSound 104 = .ok (.ireturn, 1) := by decide +kernel
set_option maxHeartbeats 4000000 in
set_option maxRecDepth 100000 in
theorem m_Tb_isSecretSound {g0 : State} {d : zD} {l : Launch} {a0 : Array Value} (hs0 : zS0 d a0 g0) (hst : l.stackTraces = false) {G : zG} {A : Nat → Nat} {D : Nat → UInt64} {V : Nat → Nat → Int32} {nk ns : Nat} (hT : zT d A D V nk ns G) {si : Nat} (hsi : si < ns) : zMet g0 d l y_Tb_isSecretSound c_Tb_isSecretSound 3 ((Option.some Jvm.ClassFile.FieldType.boolean)) 5 0 0 [.ref (A 0), .ref (A (200 + si))] (G) (zTu d A nk ns V G zrB) (zNo) := by
  have hG_Tb := hT.tb
  have hnk : nk ≤ 8 := hT.2.1
  have hns : ns ≤ 6 := hT.2.2.1
  refine z_entry hs0 hst (by decide) (Nat.le_of_ble_eq_true rfl) (fun p e s m args below meth c => ?_)
  refine z_aload_n 0 d_Tb_isSecretSound_0 rfl rfl ?_
  refine z_get zc_Tb 4 (by decide) qF_Tb_36 hT.tb rfl d_Tb_isSecretSound_1 ?_
  refine z_aload_n 1 d_Tb_isSecretSound_4 rfl rfl ?_
  refine z_get zc_Se 0 (by decide) qF_Tb_147 (hT.se hsi).1 rfl d_Tb_isSecretSound_5 ?_
  refine z_callVp0 (m_Gr_begin hs0 hst hT.gA _) ym_Gr_begin qM_Tb_351 qI_Gr_begin qV_Gr_Gr_begin zc_Gr hT.gr d_Tb_isSecretSound_8 rfl (Nat.le_of_ble_eq_true rfl) ⟨Nat.zero_le _, Nat.zero_le _⟩ ⟨Nat.le_of_ble_eq_true rfl, Nat.le_of_ble_eq_true rfl⟩ (fun r_8 G_8 hp_8 => ?_)
  obtain ⟨hr_8, hg_8⟩ := hp_8
  obtain rfl : r_8 = none := hr_8
  obtain ⟨V1, hT1, hK1, hF1⟩ := hT.putg (V (200 + si) 0) 0 0 (p := 0) ⟨0, by decide, nI_0.symm⟩
  rw [← hg_8] at hT1 hF1
  refine z_iconst (v := (nI 0)) d_Tb_isSecretSound_11 (by decide) ?_
  refine z_istore_n (L' := [(2, _), (0, _), (1, _)]) d_Tb_isSecretSound_12 rfl (by decide) rfl ?_
  have key_13 : ∀ (n : Nat) (i : Nat) (G2 : zG) (D2 : Nat → UInt64) (V2 : Nat → Nat → Int32) , 8 - i < n → (i ≤ 8) → (zT d A D2 V2 nk ns G2) → (zKo V V2) → (tFr A nk ns G G2) → Z g0 d y_Tb_isSecretSound c_Tb_isSecretSound 3 ((Option.some Jvm.ClassFile.FieldType.boolean)) [] p l e (zR 5 0 0) s m args below meth c (vx_MQ below (zQc g0 d (zTu d A nk ns V G zrB)) (zXc g0 d (zNo)) args s 0 0 (zA g0)) 0 0 (G2) [(2, .int (nI i)), (0, .ref (A 0)), (1, .ref (A (200 + si)))] [] 13 := by
    intro n
    induction n with
    | zero => intro i G2 D2 V2  h0; exact absurd h0 (Nat.not_lt_zero _)
    | succ n ih_13 =>
      intro i G2 D2 V2  hm_13 hi hT2 hK2 hF2
      refine z_iload_n 0 d_Tb_isSecretSound_13 rfl rfl ?_
      refine z_bipush (v := (nI 8)) d_Tb_isSecretSound_14 (by decide) ?_
      refine z_icmp_ge 82 d_Tb_isSecretSound_16 (by decide) (fun c_16 => ?_) (fun c_16 => ?_)
      · skip
        refine z_aload_n 2 d_Tb_isSecretSound_82 rfl rfl ?_
        refine z_get zc_Se 7 (by decide) qF_Tb_206 (hT2.se hsi).1 rfl d_Tb_isSecretSound_83 ?_
        refine z_if_ne 99 d_Tb_isSecretSound_86 (by decide) (fun c_86 => ?_) (fun c_86 => ?_)
        · skip
          refine z_iconst (v := 1) d_Tb_isSecretSound_99 (by decide) ?_
          refine z_goto 104 d_Tb_isSecretSound_100 (by decide) ?_
          exact z_zret rfl (by first | rfl | exact zb_nar _) (by first | exact ⟨⟨true, rfl⟩, _, _, hT2, hK2, hF2⟩ | exact ⟨⟨false, rfl⟩, _, _, hT2, hK2, hF2⟩) (by first | decide | omega) (by first | decide | omega) d_Tb_isSecretSound_104
        · skip
          refine z_aload_n 1 d_Tb_isSecretSound_89 rfl rfl ?_
          refine z_get zc_Tb 4 (by decide) qF_Tb_36 hT2.tb rfl d_Tb_isSecretSound_90 ?_
          refine z_callV0 (m_Gr_isOnOneCurve hs0 hst hT2.gA) ym_Gr_isOnOneCurve qM_Tb_291 qI_Gr_isOnOneCurve qV_Gr_Gr_isOnOneCurve zc_Gr hT2.gr d_Tb_isSecretSound_93 rfl (Nat.le_of_ble_eq_true rfl) ⟨Nat.zero_le _, Nat.zero_le _⟩ ⟨Nat.le_of_ble_eq_true rfl, Nat.le_of_ble_eq_true rfl⟩ ?_
          refine z_if_eq 103 d_Tb_isSecretSound_96 (by decide) (fun c_96 => ?_) (fun c_96 => ?_)
          · skip
            refine z_iconst (v := 0) d_Tb_isSecretSound_103 (by decide) ?_
            exact z_zret rfl (by first | rfl | exact zb_nar _) (by first | exact ⟨⟨true, rfl⟩, _, _, hT2, hK2, hF2⟩ | exact ⟨⟨false, rfl⟩, _, _, hT2, hK2, hF2⟩) (by first | decide | omega) (by first | decide | omega) d_Tb_isSecretSound_104
          · skip
            refine z_iconst (v := 1) d_Tb_isSecretSound_99 (by decide) ?_
            refine z_goto 104 d_Tb_isSecretSound_100 (by decide) ?_
            exact z_zret rfl (by first | rfl | exact zb_nar _) (by first | exact ⟨⟨true, rfl⟩, _, _, hT2, hK2, hF2⟩ | exact ⟨⟨false, rfl⟩, _, _, hT2, hK2, hF2⟩) (by first | decide | omega) (by first | decide | omega) d_Tb_isSecretSound_104
      · skip
        have hi6 : i < 8 := Nat.lt_of_not_le fun q => c_16 (nI_le (a := 8) (b := i) q (by omega))
        refine z_aload_n 2 d_Tb_isSecretSound_19 rfl rfl ?_
        refine z_iload_n 0 d_Tb_isSecretSound_20 rfl rfl ?_
        refine z_callV0 (m_Se_has hs0 hst (hT2.se hsi) hi6) ym_Se_has qM_Tb_270 qI_Se_has qV_Se_Se_has zc_Se (hT2.se hsi).1 d_Tb_isSecretSound_21 rfl (Nat.le_of_ble_eq_true rfl) ⟨Nat.zero_le _, Nat.zero_le _⟩ ⟨Nat.le_of_ble_eq_true rfl, Nat.le_of_ble_eq_true rfl⟩ ?_
        refine z_if_eq 52 d_Tb_isSecretSound_24 (by decide) (fun c_24 => ?_) (fun c_24 => ?_)
        · skip
          refine z_aload_n 2 d_Tb_isSecretSound_52 rfl rfl ?_
          refine z_iload_n 0 d_Tb_isSecretSound_53 rfl rfl ?_
          refine z_callV0 (m_Se_isCurrent hs0 hst (hT2.se hsi) hi6) ym_Se_isCurrent qM_Tb_179 qI_Se_isCurrent qV_Se_Se_isCurrent zc_Se (hT2.se hsi).1 d_Tb_isSecretSound_54 rfl (Nat.le_of_ble_eq_true rfl) ⟨Nat.zero_le _, Nat.zero_le _⟩ ⟨Nat.le_of_ble_eq_true rfl, Nat.le_of_ble_eq_true rfl⟩ ?_
          refine z_if_eq 76 d_Tb_isSecretSound_57 (by decide) (fun c_57 => ?_) (fun c_57 => ?_)
          · skip
            refine z_iinc (v := nI (i + 1)) (L' := [(2, _), (0, _), (1, _)]) 0 d_Tb_isSecretSound_76 rfl (nI_1 i) (by decide) rfl ?_
            refine z_goto 13 d_Tb_isSecretSound_79 (by decide) ?_
            exact ih_13 (i + 1) _ _ _ (by omega) (by omega) (by first | exact hT3 | exact hT2) (by first | exact hK2.tr hK3 | exact hK2) (by first | exact hF2.tr hF3 | exact hF2)
          · skip
            refine z_aload_n 1 d_Tb_isSecretSound_60 rfl rfl ?_
            refine z_get zc_Tb 4 (by decide) qF_Tb_36 hT2.tb rfl d_Tb_isSecretSound_61 ?_
            refine z_iload_n 0 d_Tb_isSecretSound_64 rfl rfl ?_
            refine z_callS0 (m_Tb_pointOf hs0 hst (nI i)) ym_Tb_pointOf qM_Tb_128 qS_Tb_pointOf d_Tb_isSecretSound_65 rfl (Nat.le_of_ble_eq_true rfl) ⟨Nat.zero_le _, Nat.zero_le _⟩ ⟨Nat.le_of_ble_eq_true rfl, Nat.le_of_ble_eq_true rfl⟩ ?_
            refine z_topv (nI_1 i) ?_
            refine z_aload_n 2 d_Tb_isSecretSound_68 rfl rfl ?_
            refine z_iload_n 0 d_Tb_isSecretSound_69 rfl rfl ?_
            refine z_callV0 (m_Se_shareOf hs0 hst (hT2.se hsi) hi6) ym_Se_shareOf qM_Tb_155 qI_Se_shareOf qV_Se_Se_shareOf zc_Se (hT2.se hsi).1 d_Tb_isSecretSound_70 rfl (Nat.le_of_ble_eq_true rfl) ⟨Nat.zero_le _, Nat.zero_le _⟩ ⟨Nat.le_of_ble_eq_true rfl, Nat.le_of_ble_eq_true rfl⟩ ?_
            refine z_callVp0 (m_Gr_give hs0 hst hT2.gA (show i + 1 < 9 by omega) _) ym_Gr_give qM_Tb_288 qI_Gr_give qV_Gr_Gr_give zc_Gr hT2.gr d_Tb_isSecretSound_73 rfl (Nat.le_of_ble_eq_true rfl) ⟨Nat.zero_le _, Nat.zero_le _⟩ ⟨Nat.le_of_ble_eq_true rfl, Nat.le_of_ble_eq_true rfl⟩ (fun r_73 G_73 hp_73 => ?_)
            obtain ⟨hr_73, hg_73⟩ := hp_73
            obtain rfl : r_73 = none := hr_73
            obtain ⟨V3, hT3, hK3, hF3⟩ := hT2.give (k := i + 1) (by omega) (V2 (300 + si) i)
            rw [← hg_73] at hT3 hF3
            refine z_iinc (v := nI (i + 1)) (L' := [(2, _), (0, _), (1, _)]) 0 d_Tb_isSecretSound_76 rfl (nI_1 i) (by decide) rfl ?_
            refine z_goto 13 d_Tb_isSecretSound_79 (by decide) ?_
            exact ih_13 (i + 1) _ _ _ (by omega) (by omega) (by first | exact hT3 | exact hT2) (by first | exact hK2.tr hK3 | exact hK2) (by first | exact hF2.tr hF3 | exact hF2)
        · skip
          refine z_aload_n 2 d_Tb_isSecretSound_27 rfl rfl ?_
          refine z_iload_n 0 d_Tb_isSecretSound_28 rfl rfl ?_
          refine z_callV0 (m_Se_shareOf hs0 hst (hT2.se hsi) hi6) ym_Se_shareOf qM_Tb_155 qI_Se_shareOf qV_Se_Se_shareOf zc_Se (hT2.se hsi).1 d_Tb_isSecretSound_29 rfl (Nat.le_of_ble_eq_true rfl) ⟨Nat.zero_le _, Nat.zero_le _⟩ ⟨Nat.le_of_ble_eq_true rfl, Nat.le_of_ble_eq_true rfl⟩ ?_
          refine z_callS0 (m_Tb_isNumber hs0 hst _) ym_Tb_isNumber qM_Tb_90 qS_Tb_isNumber d_Tb_isSecretSound_32 rfl (Nat.le_of_ble_eq_true rfl) ⟨Nat.zero_le _, Nat.zero_le _⟩ ⟨Nat.le_of_ble_eq_true rfl, Nat.le_of_ble_eq_true rfl⟩ ?_
          refine z_if_eq 50 d_Tb_isSecretSound_35 (by decide) (fun c_35 => ?_) (fun c_35 => ?_)
          · skip
            refine z_iconst (v := 0) d_Tb_isSecretSound_50 (by decide) ?_
            exact z_zret rfl (by first | rfl | exact zb_nar _) (by first | exact ⟨⟨true, rfl⟩, _, _, hT2, hK2, hF2⟩ | exact ⟨⟨false, rfl⟩, _, _, hT2, hK2, hF2⟩) (by first | decide | omega) (by first | decide | omega) d_Tb_isSecretSound_51
          · skip
            refine z_aload_n 2 d_Tb_isSecretSound_38 rfl rfl ?_
            refine z_iload_n 0 d_Tb_isSecretSound_39 rfl rfl ?_
            refine z_callV0 (m_Se_epochOf hs0 hst (hT2.se hsi) hi6) ym_Se_epochOf qM_Tb_395 qI_Se_epochOf qV_Se_Se_epochOf zc_Se (hT2.se hsi).1 d_Tb_isSecretSound_40 rfl (Nat.le_of_ble_eq_true rfl) ⟨Nat.zero_le _, Nat.zero_le _⟩ ⟨Nat.le_of_ble_eq_true rfl, Nat.le_of_ble_eq_true rfl⟩ ?_
            refine z_aload_n 2 d_Tb_isSecretSound_43 rfl rfl ?_
            refine z_get zc_Se 5 (by decide) qF_Tb_152 (hT2.se hsi).1 rfl d_Tb_isSecretSound_44 ?_
            refine z_icmp_le 52 d_Tb_isSecretSound_47 (by decide) (fun c_47 => ?_) (fun c_47 => ?_)
            · skip
              refine z_aload_n 2 d_Tb_isSecretSound_52 rfl rfl ?_
              refine z_iload_n 0 d_Tb_isSecretSound_53 rfl rfl ?_
              refine z_callV0 (m_Se_isCurrent hs0 hst (hT2.se hsi) hi6) ym_Se_isCurrent qM_Tb_179 qI_Se_isCurrent qV_Se_Se_isCurrent zc_Se (hT2.se hsi).1 d_Tb_isSecretSound_54 rfl (Nat.le_of_ble_eq_true rfl) ⟨Nat.zero_le _, Nat.zero_le _⟩ ⟨Nat.le_of_ble_eq_true rfl, Nat.le_of_ble_eq_true rfl⟩ ?_
              refine z_if_eq 76 d_Tb_isSecretSound_57 (by decide) (fun c_57 => ?_) (fun c_57 => ?_)
              · skip
                refine z_iinc (v := nI (i + 1)) (L' := [(2, _), (0, _), (1, _)]) 0 d_Tb_isSecretSound_76 rfl (nI_1 i) (by decide) rfl ?_
                refine z_goto 13 d_Tb_isSecretSound_79 (by decide) ?_
                exact ih_13 (i + 1) _ _ _ (by omega) (by omega) (by first | exact hT3 | exact hT2) (by first | exact hK2.tr hK3 | exact hK2) (by first | exact hF2.tr hF3 | exact hF2)
              · skip
                refine z_aload_n 1 d_Tb_isSecretSound_60 rfl rfl ?_
                refine z_get zc_Tb 4 (by decide) qF_Tb_36 hT2.tb rfl d_Tb_isSecretSound_61 ?_
                refine z_iload_n 0 d_Tb_isSecretSound_64 rfl rfl ?_
                refine z_callS0 (m_Tb_pointOf hs0 hst (nI i)) ym_Tb_pointOf qM_Tb_128 qS_Tb_pointOf d_Tb_isSecretSound_65 rfl (Nat.le_of_ble_eq_true rfl) ⟨Nat.zero_le _, Nat.zero_le _⟩ ⟨Nat.le_of_ble_eq_true rfl, Nat.le_of_ble_eq_true rfl⟩ ?_
                refine z_topv (nI_1 i) ?_
                refine z_aload_n 2 d_Tb_isSecretSound_68 rfl rfl ?_
                refine z_iload_n 0 d_Tb_isSecretSound_69 rfl rfl ?_
                refine z_callV0 (m_Se_shareOf hs0 hst (hT2.se hsi) hi6) ym_Se_shareOf qM_Tb_155 qI_Se_shareOf qV_Se_Se_shareOf zc_Se (hT2.se hsi).1 d_Tb_isSecretSound_70 rfl (Nat.le_of_ble_eq_true rfl) ⟨Nat.zero_le _, Nat.zero_le _⟩ ⟨Nat.le_of_ble_eq_true rfl, Nat.le_of_ble_eq_true rfl⟩ ?_
                refine z_callVp0 (m_Gr_give hs0 hst hT2.gA (show i + 1 < 9 by omega) _) ym_Gr_give qM_Tb_288 qI_Gr_give qV_Gr_Gr_give zc_Gr hT2.gr d_Tb_isSecretSound_73 rfl (Nat.le_of_ble_eq_true rfl) ⟨Nat.zero_le _, Nat.zero_le _⟩ ⟨Nat.le_of_ble_eq_true rfl, Nat.le_of_ble_eq_true rfl⟩ (fun r_73 G_73 hp_73 => ?_)
                obtain ⟨hr_73, hg_73⟩ := hp_73
                obtain rfl : r_73 = none := hr_73
                obtain ⟨V3, hT3, hK3, hF3⟩ := hT2.give (k := i + 1) (by omega) (V2 (300 + si) i)
                rw [← hg_73] at hT3 hF3
                refine z_iinc (v := nI (i + 1)) (L' := [(2, _), (0, _), (1, _)]) 0 d_Tb_isSecretSound_76 rfl (nI_1 i) (by decide) rfl ?_
                refine z_goto 13 d_Tb_isSecretSound_79 (by decide) ?_
                exact ih_13 (i + 1) _ _ _ (by omega) (by omega) (by first | exact hT3 | exact hT2) (by first | exact hK2.tr hK3 | exact hK2) (by first | exact hF2.tr hF3 | exact hF2)
            · skip
              refine z_iconst (v := 0) d_Tb_isSecretSound_50 (by decide) ?_
              exact z_zret rfl (by first | rfl | exact zb_nar _) (by first | exact ⟨⟨true, rfl⟩, _, _, hT2, hK2, hF2⟩ | exact ⟨⟨false, rfl⟩, _, _, hT2, hK2, hF2⟩) (by first | decide | omega) (by first | decide | omega) d_Tb_isSecretSound_51
  exact key_13 (8 + 1) 0 _ _ _ (by omega) (by omega) hT1 hK1 hF1
theorem d_Tb_chanceLost_0 : decode c_Tb_chanceLost 0 = .ok (.iconst 0, 1) := by decide +kernel
theorem d_Tb_chanceLost_1 : decode c_Tb_chanceLost 1 = .ok (.istore_n 2, 1) := by decide +kernel
theorem d_Tb_chanceLost_2 : decode c_Tb_chanceLost 2 = .ok (.iload_n 2, 1) := by decide +kernel
theorem d_Tb_chanceLost_3 : decode c_Tb_chanceLost 3 = .ok (.aload_n 0, 1) := by decide +kernel
theorem d_Tb_chanceLost_4 : decode c_Tb_chanceLost 4 = .ok (.getfield 40, 3) := by decide +kernel
theorem d_Tb_chanceLost_7 : decode c_Tb_chanceLost 7 = .ok (.arraylength, 1) := by decide +kernel
theorem d_Tb_chanceLost_8 : decode c_Tb_chanceLost 8 = .ok (.if_icmp .ge 24, 3) := by decide +kernel
theorem d_Tb_chanceLost_11 : decode c_Tb_chanceLost 11 = .ok (.aload_n 0, 1) := by decide +kernel
theorem d_Tb_chanceLost_12 : decode c_Tb_chanceLost 12 = .ok (.getfield 40, 3) := by decide +kernel
theorem d_Tb_chanceLost_15 : decode c_Tb_chanceLost 15 = .ok (.iload_n 2, 1) := by decide +kernel
theorem d_Tb_chanceLost_16 : decode c_Tb_chanceLost 16 = .ok (.iload_n 2, 1) := by decide +kernel
theorem d_Tb_chanceLost_17 : decode c_Tb_chanceLost 17 = .ok (.ifCond .ne 7, 3) := by decide +kernel
theorem d_Tb_chanceLost_20 : decode c_Tb_chanceLost 20 = .ok (.dconst 1, 1) := by decide +kernel
theorem d_Tb_chanceLost_21 : decode c_Tb_chanceLost 21 = .ok (.goto 4, 3) := by decide +kernel
theorem d_Tb_chanceLost_24 : decode c_Tb_chanceLost 24 = .ok (.dconst 0, 1) := by decide +kernel
theorem d_Tb_chanceLost_25 : decode c_Tb_chanceLost 25 = .ok (.dastore, 1) := by decide +kernel
theorem d_Tb_chanceLost_26 : decode c_Tb_chanceLost 26 = .ok (.iinc 2 1, 3) := by decide +kernel
theorem d_Tb_chanceLost_29 : decode c_Tb_chanceLost 29 = .ok (.goto (-27), 3) := by decide +kernel
theorem d_Tb_chanceLost_32 : decode c_Tb_chanceLost 32 = .ok (.iconst 0, 1) := by decide +kernel
theorem d_Tb_chanceLost_33 : decode c_Tb_chanceLost 33 = .ok (.istore_n 2, 1) := by decide +kernel
theorem d_Tb_chanceLost_34 : decode c_Tb_chanceLost 34 = .ok (.iload_n 2, 1) := by decide +kernel
theorem d_Tb_chanceLost_35 : decode c_Tb_chanceLost 35 = .ok (.aload_n 0, 1) := by decide +kernel
theorem d_Tb_chanceLost_36 : decode c_Tb_chanceLost 36 = .ok (.getfield 10, 3) := by decide +kernel
theorem d_Tb_chanceLost_39 : decode c_Tb_chanceLost 39 = .ok (.invokevirtual 68, 3) := by decide +kernel
theorem d_Tb_chanceLost_42 : decode c_Tb_chanceLost 42 = .ok (.if_icmp .ge 35, 3) := by decide +kernel
theorem d_Tb_chanceLost_45 : decode c_Tb_chanceLost 45 = .ok (.aload_n 1, 1) := by decide +kernel
theorem d_Tb_chanceLost_46 : decode c_Tb_chanceLost 46 = .ok (.iload_n 2, 1) := by decide +kernel
theorem d_Tb_chanceLost_47 : decode c_Tb_chanceLost 47 = .ok (.invokevirtual 179, 3) := by decide +kernel
theorem d_Tb_chanceLost_50 : decode c_Tb_chanceLost 50 = .ok (.ifCond .eq 21, 3) := by decide +kernel
theorem d_Tb_chanceLost_53 : decode c_Tb_chanceLost 53 = .ok (.aload_n 0, 1) := by decide +kernel
theorem d_Tb_chanceLost_54 : decode c_Tb_chanceLost 54 = .ok (.aload_n 0, 1) := by decide +kernel
theorem d_Tb_chanceLost_55 : decode c_Tb_chanceLost 55 = .ok (.getfield 10, 3) := by decide +kernel
theorem d_Tb_chanceLost_58 : decode c_Tb_chanceLost 58 = .ok (.iload_n 2, 1) := by decide +kernel
theorem d_Tb_chanceLost_59 : decode c_Tb_chanceLost 59 = .ok (.invokevirtual 166, 3) := by decide +kernel
theorem d_Tb_chanceLost_62 : decode c_Tb_chanceLost 62 = .ok (.checkcast 77, 3) := by decide +kernel
theorem d_Tb_chanceLost_65 : decode c_Tb_chanceLost 65 = .ok (.getfield 375, 3) := by decide +kernel
theorem d_Tb_chanceLost_68 : decode c_Tb_chanceLost 68 = .ok (.invokevirtual 378, 3) := by decide +kernel
theorem d_Tb_chanceLost_71 : decode c_Tb_chanceLost 71 = .ok (.iinc 2 1, 3) := by decide +kernel
theorem d_Tb_chanceLost_74 : decode c_Tb_chanceLost 74 = .ok (.goto (-40), 3) := by decide +kernel
theorem d_Tb_chanceLost_77 : decode c_Tb_chanceLost 77 = .ok (.dconst 0, 1) := by decide +kernel
theorem d_Tb_chanceLost_78 : decode c_Tb_chanceLost 78 = .ok (.dstore_n 2, 1) := by decide +kernel
theorem d_Tb_chanceLost_79 : decode c_Tb_chanceLost 79 = .ok (.iconst 0, 1) := by decide +kernel
theorem d_Tb_chanceLost_80 : decode c_Tb_chanceLost 80 = .ok (.istore 4, 2) := by decide +kernel
theorem d_Tb_chanceLost_82 : decode c_Tb_chanceLost 82 = .ok (.iload 4, 2) := by decide +kernel
theorem d_Tb_chanceLost_84 : decode c_Tb_chanceLost 84 = .ok (.aload_n 1, 1) := by decide +kernel
theorem d_Tb_chanceLost_85 : decode c_Tb_chanceLost 85 = .ok (.getfield 147, 3) := by decide +kernel
theorem d_Tb_chanceLost_88 : decode c_Tb_chanceLost 88 = .ok (.if_icmp .ge 29, 3) := by decide +kernel
theorem d_Tb_chanceLost_91 : decode c_Tb_chanceLost 91 = .ok (.iload 4, 2) := by decide +kernel
theorem d_Tb_chanceLost_93 : decode c_Tb_chanceLost 93 = .ok (.aload_n 0, 1) := by decide +kernel
theorem d_Tb_chanceLost_94 : decode c_Tb_chanceLost 94 = .ok (.getfield 40, 3) := by decide +kernel
theorem d_Tb_chanceLost_97 : decode c_Tb_chanceLost 97 = .ok (.arraylength, 1) := by decide +kernel
theorem d_Tb_chanceLost_98 : decode c_Tb_chanceLost 98 = .ok (.if_icmp .ge 19, 3) := by decide +kernel
theorem d_Tb_chanceLost_101 : decode c_Tb_chanceLost 101 = .ok (.dload_n 2, 1) := by decide +kernel
theorem d_Tb_chanceLost_102 : decode c_Tb_chanceLost 102 = .ok (.aload_n 0, 1) := by decide +kernel
theorem d_Tb_chanceLost_103 : decode c_Tb_chanceLost 103 = .ok (.getfield 40, 3) := by decide +kernel
theorem d_Tb_chanceLost_106 : decode c_Tb_chanceLost 106 = .ok (.iload 4, 2) := by decide +kernel
theorem d_Tb_chanceLost_108 : decode c_Tb_chanceLost 108 = .ok (.daload, 1) := by decide +kernel
theorem d_Tb_chanceLost_109 : decode c_Tb_chanceLost 109 = .ok (.dadd, 1) := by decide +kernel
theorem d_Tb_chanceLost_110 : decode c_Tb_chanceLost 110 = .ok (.dstore_n 2, 1) := by decide +kernel
theorem d_Tb_chanceLost_111 : decode c_Tb_chanceLost 111 = .ok (.iinc 4 1, 3) := by decide +kernel
theorem d_Tb_chanceLost_114 : decode c_Tb_chanceLost 114 = .ok (.goto (-32), 3) := by decide +kernel
theorem d_Tb_chanceLost_117 : decode c_Tb_chanceLost 117 = .ok (.dload_n 2, 1) := by decide +kernel
theorem d_Tb_chanceLost_118 : decode c_Tb_chanceLost 118 = .ok (.dreturn, 1) := by decide +kernel
set_option maxHeartbeats 4000000 in
set_option maxRecDepth 100000 in
theorem m_Tb_chanceLost {g0 : State} {d : zD} {l : Launch} {a0 : Array Value} (hs0 : zS0 d a0 g0) (hst : l.stackTraces = false) {G : zG} {A : Nat → Nat} {D : Nat → UInt64} {V : Nat → Nat → Int32} {nk ns : Nat} (hT : zT d A D V nk ns G) {si : Nat} (hsi : si < ns) : zMet g0 d l y_Tb_chanceLost c_Tb_chanceLost 5 ((Option.some Jvm.ClassFile.FieldType.double)) 11 0 0 [.ref (A 0), .ref (A (200 + si))] (G) (zTu d A nk ns V G zrD) (zNo) := by
  have hG_Tb := hT.tb
  have hnk : nk ≤ 8 := hT.2.1
  have hns : ns ≤ 6 := hT.2.2.1
  obtain ⟨t, ht1, ht4, ht⟩ := hT.tn hsi
  refine z_entry hs0 hst (by decide) (Nat.le_of_ble_eq_true rfl) (fun p e s m args below meth c => ?_)
  refine z_iconst (v := (nI 0)) d_Tb_chanceLost_0 (by decide) ?_
  refine z_istore_n (L' := [(2, _), (0, _), (1, _)]) d_Tb_chanceLost_1 rfl (by decide) rfl ?_
  have key_2 : ∀ (n : Nat) (i : Nat) (G2 : zG) (D2 : Nat → UInt64), 9 - i < n → (i ≤ 9) → (zT d A D2 V nk ns G2) → (tFr A nk ns G G2) → (∀ j, j < i → zmg (D2 j) 1024) → Z g0 d y_Tb_chanceLost c_Tb_chanceLost 5 ((Option.some Jvm.ClassFile.FieldType.double)) [] p l e (zR 11 0 0) s m args below meth c (vx_MQ below (zQc g0 d (zTu d A nk ns V G zrD)) (zXc g0 d (zNo)) args s 0 0 (zA g0)) 0 0 (G2) [(2, .int (nI i)), (0, .ref (A 0)), (1, .ref (A (200 + si)))] [] 2 := by
    intro n
    induction n with
    | zero => intro i G2 D2 h0; exact absurd h0 (Nat.not_lt_zero _)
    | succ n ih_2 =>
      intro i G2 D2 hm_2 hi hT2 hF2 hm2
      refine z_iload_n 0 d_Tb_chanceLost_2 rfl rfl ?_
      refine z_aload_n 1 d_Tb_chanceLost_3 rfl rfl ?_
      refine z_get zc_Tb 5 (by decide) qF_Tb_40 hT2.tb rfl d_Tb_chanceLost_4 ?_
      refine z_alenD hT2.ch d_Tb_chanceLost_7 ?_
      refine z_icmp_ge 32 d_Tb_chanceLost_8 (by decide) (fun c_8 => ?_) (fun c_8 => ?_)
      · skip
        obtain rfl : i = 9 := by
          have := (nI_leI (a := 9) (b := i) (by decide) (by omega)).mp c_8
          omega
        refine z_iconst (v := (nI 0)) d_Tb_chanceLost_32 (by decide) ?_
        refine z_istore_n (L' := [(2, _), (0, _), (1, _)]) d_Tb_chanceLost_33 rfl (by decide) rfl ?_
        have key_34 : ∀ (n : Nat) (i : Nat) (G2 : zG) (D2 : Nat → UInt64), nk - i < n → (i ≤ nk) → (zT d A D2 V nk ns G2) → (tFr A nk ns G G2) → (∀ j, j < 9 → zmg (D2 j) (1024 + 35 * i)) → Z g0 d y_Tb_chanceLost c_Tb_chanceLost 5 ((Option.some Jvm.ClassFile.FieldType.double)) [] p l e (zR 11 0 0) s m args below meth c (vx_MQ below (zQc g0 d (zTu d A nk ns V G zrD)) (zXc g0 d (zNo)) args s 0 0 (zA g0)) 0 0 (G2) [(2, .int (nI i)), (0, .ref (A 0)), (1, .ref (A (200 + si)))] [] 34 := by
          intro n
          induction n with
          | zero => intro i G2 D2 h0; exact absurd h0 (Nat.not_lt_zero _)
          | succ n ih_34 =>
            intro i G2 D2 hm_34 hi hT2 hF2 hm2
            refine z_iload_n 0 d_Tb_chanceLost_34 rfl rfl ?_
            refine z_aload_n 1 d_Tb_chanceLost_35 rfl rfl ?_
            refine z_get zc_Tb 0 (by decide) qF_Tb_10 hT2.tb rfl d_Tb_chanceLost_36 ?_
            refine z_callV0 (m_AL_size hs0 hst hT2.kl) ym_AL_size qM_Tb_68 qI_AL_size qV_AL_AL_size zc_AL hT2.kl d_Tb_chanceLost_39 rfl (Nat.le_of_ble_eq_true rfl) ⟨Nat.zero_le _, Nat.zero_le _⟩ ⟨Nat.le_of_ble_eq_true rfl, Nat.le_of_ble_eq_true rfl⟩ ?_
            refine z_icmp_ge 77 d_Tb_chanceLost_42 (by decide) (fun c_42 => ?_) (fun c_42 => ?_)
            · skip
              have hm4 : ∀ j, j < 9 → zmg (D2 j) 1304 := fun j hj => (hm2 j hj).mono (by omega)
              refine z_dconst0 d_Tb_chanceLost_77 ?_
              refine z_dstore_n (L' := [(2, _), (0, _), (1, _)]) d_Tb_chanceLost_78 rfl (by decide) rfl ?_
              refine z_iconst (v := (nI 0)) d_Tb_chanceLost_79 (by decide) ?_
              refine z_istore (L' := [(4, _), (2, _), (0, _), (1, _)]) d_Tb_chanceLost_80 (by decide) rfl ?_
              have key_82 : ∀ (n : Nat) (i : Nat) (v : UInt64), t - i < n → (i ≤ t) → (zmg v (1304 + 2 * i)) → Z g0 d y_Tb_chanceLost c_Tb_chanceLost 5 ((Option.some Jvm.ClassFile.FieldType.double)) [] p l e (zR 11 0 0) s m args below meth c (vx_MQ below (zQc g0 d (zTu d A nk ns V G zrD)) (zXc g0 d (zNo)) args s 0 0 (zA g0)) 0 0 (G2) [(4, .int (nI i)), (2, .double v), (0, .ref (A 0)), (1, .ref (A (200 + si)))] [] 82 := by
                intro n
                induction n with
                | zero => intro i v h0; exact absurd h0 (Nat.not_lt_zero _)
                | succ n ih_82 =>
                  intro i v hm_82 hi hv
                  refine z_iload 0 d_Tb_chanceLost_82 rfl ?_
                  refine z_aload_n 3 d_Tb_chanceLost_84 rfl rfl ?_
                  refine z_get zc_Se 0 (by decide) qF_Tb_147 (hT2.se hsi).1 rfl d_Tb_chanceLost_85 ?_
                  rw [ht]
                  refine z_icmp_ge 117 d_Tb_chanceLost_88 (by decide) (fun c_88 => ?_) (fun c_88 => ?_)
                  · skip
                    refine z_dload_n 1 d_Tb_chanceLost_117 rfl rfl ?_
                    exact z_dret rfl (⟨⟨v, rfl, hv.mono (by omega)⟩, D2, V, hT2, zKo.rf, hF2⟩) (by first | decide | omega) (by first | decide | omega) d_Tb_chanceLost_118
                  · skip
                    have hi6 : i < t := Nat.lt_of_not_le fun q => c_88 (nI_le q (by omega))
                    refine z_iload 0 d_Tb_chanceLost_91 rfl ?_
                    refine z_aload_n 2 d_Tb_chanceLost_93 rfl rfl ?_
                    refine z_get zc_Tb 5 (by decide) qF_Tb_40 hT2.tb rfl d_Tb_chanceLost_94 ?_
                    refine z_alenD hT2.ch d_Tb_chanceLost_97 ?_
                    refine z_icmp_ge 117 d_Tb_chanceLost_98 (by decide) (fun c_98 => absurd ((nI_leI (a := 9) (b := i) (by decide) (by omega)).mp c_98) (by omega)) (fun c_98 => ?_)
                    refine z_dload_n 1 d_Tb_chanceLost_101 rfl rfl ?_
                    refine z_aload_n 2 d_Tb_chanceLost_102 rfl rfl ?_
                    refine z_get zc_Tb 5 (by decide) qF_Tb_40 hT2.tb rfl d_Tb_chanceLost_103 ?_
                    refine z_iload 0 d_Tb_chanceLost_106 rfl ?_
                    refine z_daldN hT2.ch ((show i < 9 by omega)) (by decide) d_Tb_chanceLost_108 ?_
                    refine z_dadd d_Tb_chanceLost_109 ((zmg_a hv ((hm4 i (by omega)).mono (by omega)) (by omega)).nn (by omega)) ?_
                    refine z_dstore_n (L' := [(2, _), (4, _), (0, _), (1, _)]) d_Tb_chanceLost_110 rfl (by decide) rfl ?_
                    refine z_iinc (v := nI (i + 1)) (L' := [(4, _), (2, _), (0, _), (1, _)]) 1 d_Tb_chanceLost_111 rfl (nI_1 i) (by decide) rfl ?_
                    refine z_goto 82 d_Tb_chanceLost_114 (by decide) ?_
                    exact ih_82 (i + 1) _ (by omega) (by omega) ((zmg_a hv ((hm4 i (by omega)).mono (by omega)) (by omega)).mono (by omega))
              exact key_82 (t + 1) 0 _ (by omega) (by omega) (zmg_0.mono (by omega))
            · skip
              have hi6 : i < nk := Nat.lt_of_not_le fun q => c_42 (nI_le q (by omega))
              refine z_aload_n 2 d_Tb_chanceLost_45 rfl rfl ?_
              refine z_iload_n 0 d_Tb_chanceLost_46 rfl rfl ?_
              refine z_callV0 (m_Se_isCurrent hs0 hst (hT2.se hsi) (show i < 8 by omega)) ym_Se_isCurrent qM_Tb_179 qI_Se_isCurrent qV_Se_Se_isCurrent zc_Se (hT2.se hsi).1 d_Tb_chanceLost_47 rfl (Nat.le_of_ble_eq_true rfl) ⟨Nat.zero_le _, Nat.zero_le _⟩ ⟨Nat.le_of_ble_eq_true rfl, Nat.le_of_ble_eq_true rfl⟩ ?_
              refine z_if_eq 71 d_Tb_chanceLost_50 (by decide) (fun c_50 => ?_) (fun c_50 => ?_)
              · skip
                refine z_iinc (v := nI (i + 1)) (L' := [(2, _), (0, _), (1, _)]) 0 d_Tb_chanceLost_71 rfl (nI_1 i) (by decide) rfl ?_
                refine z_goto 34 d_Tb_chanceLost_74 (by decide) ?_
                first
                  | exact ih_34 (i + 1) _ _ (by omega) (by omega) hT3 (hF2.tr hF3) (fun j hj => (hm3 j hj).mono (by omega))
                  | exact ih_34 (i + 1) _ _ (by omega) (by omega) hT2 hF2 (fun j hj => (hm2 j hj).mono (by omega))
              · skip
                refine z_aload_n 1 d_Tb_chanceLost_53 rfl rfl ?_
                refine z_aload_n 1 d_Tb_chanceLost_54 rfl rfl ?_
                refine z_get zc_Tb 0 (by decide) qF_Tb_10 hT2.tb rfl d_Tb_chanceLost_55 ?_
                refine z_iload_n 0 d_Tb_chanceLost_58 rfl rfl ?_
                refine z_callV0 (m_AL_get hs0 hst (hT2.kA hi6) hi6 (if_pos hi6)) ym_AL_get qM_Tb_166 qI_AL_get qV_AL_AL_get zc_AL (hT2.kA hi6).1 d_Tb_chanceLost_59 rfl (Nat.le_of_ble_eq_true rfl) ⟨Nat.zero_le _, Nat.zero_le _⟩ ⟨Nat.le_of_ble_eq_true rfl, Nat.le_of_ble_eq_true rfl⟩ ?_
                refine z_castS zc_Ke qK_Tb_77 (hT2.ke hi6) d_Tb_chanceLost_62 ?_
                refine z_get zc_Ke 3 (by decide) qF_Tb_375 (hT2.ke hi6) rfl d_Tb_chanceLost_65 ?_
                refine z_callVp0 (m_Tb_riskOne hs0 hst hT2 (V (100 + i) 3) (K := 1024 + 35 * i) (by omega) (by omega) hm2) ym_Tb_riskOne qM_Tb_378 qI_Tb_riskOne qV_Tb_Tb_riskOne zc_Tb hT2.tb d_Tb_chanceLost_68 rfl (Nat.le_of_ble_eq_true rfl) ⟨Nat.zero_le _, Nat.zero_le _⟩ ⟨Nat.le_of_ble_eq_true rfl, Nat.le_of_ble_eq_true rfl⟩ (fun r_68 G_68 hp_68 => ?_)
                obtain ⟨rfl, D3, hT3, hm3, hF3⟩ := hp_68
                refine z_iinc (v := nI (i + 1)) (L' := [(2, _), (0, _), (1, _)]) 0 d_Tb_chanceLost_71 rfl (nI_1 i) (by decide) rfl ?_
                refine z_goto 34 d_Tb_chanceLost_74 (by decide) ?_
                first
                  | exact ih_34 (i + 1) _ _ (by omega) (by omega) hT3 (hF2.tr hF3) (fun j hj => (hm3 j hj).mono (by omega))
                  | exact ih_34 (i + 1) _ _ (by omega) (by omega) hT2 hF2 (fun j hj => (hm2 j hj).mono (by omega))
        exact key_34 (nk + 1) 0 _ _ (by omega) (by omega) hT2 hF2 (fun j hj => (hm2 j hj).mono (by omega))
      · skip
        have hi6 : i < 9 := Nat.lt_of_not_le fun q => c_8 (nI_le (a := 9) (b := i) q (by omega))
        refine z_aload_n 1 d_Tb_chanceLost_11 rfl rfl ?_
        refine z_get zc_Tb 5 (by decide) qF_Tb_40 hT2.tb rfl d_Tb_chanceLost_12 ?_
        refine z_iload_n 0 d_Tb_chanceLost_15 rfl rfl ?_
        refine z_iload_n 0 d_Tb_chanceLost_16 rfl rfl ?_
        refine z_if_ne 24 d_Tb_chanceLost_17 (by decide) (fun c_17 => ?_) (fun c_17 => ?_)
        · skip
          refine z_dconst0 d_Tb_chanceLost_24 ?_
          refine z_dastN hT2.ch (hi6) (by decide) d_Tb_chanceLost_25 ?_
          refine z_iinc (v := nI (i + 1)) (L' := [(2, _), (0, _), (1, _)]) 0 d_Tb_chanceLost_26 rfl (nI_1 i) (by decide) rfl ?_
          refine z_goto 2 d_Tb_chanceLost_29 (by decide) ?_
          refine ih_2 (i + 1) _ _ (by omega) (by omega) (hT2.putD _) (hF2.tr (zT.frput (tl_s 15) rfl)) (fun j hj => ?_)
          by_cases ej : j = i
          · subst ej; rw [vu_s]; first | exact zmg_1 | exact zmg_0
          · rw [vu_n ej]; exact hm2 j (by omega)
        · skip
          refine z_dconst1 d_Tb_chanceLost_20 ?_
          refine z_goto 25 d_Tb_chanceLost_21 (by decide) ?_
          refine z_dastN hT2.ch (hi6) (by decide) d_Tb_chanceLost_25 ?_
          refine z_iinc (v := nI (i + 1)) (L' := [(2, _), (0, _), (1, _)]) 0 d_Tb_chanceLost_26 rfl (nI_1 i) (by decide) rfl ?_
          refine z_goto 2 d_Tb_chanceLost_29 (by decide) ?_
          refine ih_2 (i + 1) _ _ (by omega) (by omega) (hT2.putD _) (hF2.tr (zT.frput (tl_s 15) rfl)) (fun j hj => ?_)
          by_cases ej : j = i
          · subst ej; rw [vu_s]; first | exact zmg_1 | exact zmg_0
          · rw [vu_n ej]; exact hm2 j (by omega)
  exact key_2 10 0 _ _ (by omega) (by omega) hT zFr.rf (fun j hj => absurd hj (Nat.not_lt_zero _))
theorem d_Tb_tellOfKeeper_0 : decode c_Tb_tellOfKeeper 0 = .ok (.iload_n 2, 1) := by decide +kernel
theorem d_Tb_tellOfKeeper_1 : decode c_Tb_tellOfKeeper 1 = .ok (.tableswitch 81 0 5 #[39, 44, 49, 54, 59, 72], 39) := by decide +kernel
theorem d_Tb_tellOfKeeper_40 : decode c_Tb_tellOfKeeper 40 = .ok (.aload_n 1, 1) := by decide +kernel
theorem d_Tb_tellOfKeeper_41 : decode c_Tb_tellOfKeeper 41 = .ok (.getfield 170, 3) := by decide +kernel
theorem d_Tb_tellOfKeeper_44 : decode c_Tb_tellOfKeeper 44 = .ok (.ireturn, 1) := by decide +kernel
theorem d_Tb_tellOfKeeper_45 : decode c_Tb_tellOfKeeper 45 = .ok (.aload_n 1, 1) := by decide +kernel
theorem d_Tb_tellOfKeeper_46 : decode c_Tb_tellOfKeeper 46 = .ok (.getfield 363, 3) := by decide +kernel
theorem d_Tb_tellOfKeeper_49 : decode c_Tb_tellOfKeeper 49 = .ok (.ireturn, 1) := by decide +kernel
theorem d_Tb_tellOfKeeper_50 : decode c_Tb_tellOfKeeper 50 = .ok (.aload_n 1, 1) := by decide +kernel
theorem d_Tb_tellOfKeeper_51 : decode c_Tb_tellOfKeeper 51 = .ok (.getfield 375, 3) := by decide +kernel
theorem d_Tb_tellOfKeeper_54 : decode c_Tb_tellOfKeeper 54 = .ok (.ireturn, 1) := by decide +kernel
theorem d_Tb_tellOfKeeper_55 : decode c_Tb_tellOfKeeper 55 = .ok (.aload_n 1, 1) := by decide +kernel
theorem d_Tb_tellOfKeeper_56 : decode c_Tb_tellOfKeeper 56 = .ok (.getfield 96, 3) := by decide +kernel
theorem d_Tb_tellOfKeeper_59 : decode c_Tb_tellOfKeeper 59 = .ok (.ireturn, 1) := by decide +kernel
theorem d_Tb_tellOfKeeper_60 : decode c_Tb_tellOfKeeper 60 = .ok (.aload_n 1, 1) := by decide +kernel
theorem d_Tb_tellOfKeeper_61 : decode c_Tb_tellOfKeeper 61 = .ok (.getfield 348, 3) := by decide +kernel
theorem d_Tb_tellOfKeeper_64 : decode c_Tb_tellOfKeeper 64 = .ok (.ifCond .eq 7, 3) := by decide +kernel
theorem d_Tb_tellOfKeeper_67 : decode c_Tb_tellOfKeeper 67 = .ok (.iconst 1, 1) := by decide +kernel
theorem d_Tb_tellOfKeeper_68 : decode c_Tb_tellOfKeeper 68 = .ok (.goto 4, 3) := by decide +kernel
theorem d_Tb_tellOfKeeper_71 : decode c_Tb_tellOfKeeper 71 = .ok (.iconst 0, 1) := by decide +kernel
theorem d_Tb_tellOfKeeper_72 : decode c_Tb_tellOfKeeper 72 = .ok (.ireturn, 1) := by decide +kernel
theorem d_Tb_tellOfKeeper_73 : decode c_Tb_tellOfKeeper 73 = .ok (.aload_n 0, 1) := by decide +kernel
theorem d_Tb_tellOfKeeper_74 : decode c_Tb_tellOfKeeper 74 = .ok (.aload_n 1, 1) := by decide +kernel
theorem d_Tb_tellOfKeeper_75 : decode c_Tb_tellOfKeeper 75 = .ok (.getfield 383, 3) := by decide +kernel
theorem d_Tb_tellOfKeeper_78 : decode c_Tb_tellOfKeeper 78 = .ok (.invokevirtual 173, 3) := by decide +kernel
theorem d_Tb_tellOfKeeper_81 : decode c_Tb_tellOfKeeper 81 = .ok (.ireturn, 1) := by decide +kernel
theorem d_Tb_tellOfKeeper_82 : decode c_Tb_tellOfKeeper 82 = .ok (.aload_n 0, 1) := by decide +kernel
theorem d_Tb_tellOfKeeper_83 : decode c_Tb_tellOfKeeper 83 = .ok (.aload_n 1, 1) := by decide +kernel
theorem d_Tb_tellOfKeeper_84 : decode c_Tb_tellOfKeeper 84 = .ok (.getfield 383, 3) := by decide +kernel
theorem d_Tb_tellOfKeeper_87 : decode c_Tb_tellOfKeeper 87 = .ok (.invokevirtual 386, 3) := by decide +kernel
theorem d_Tb_tellOfKeeper_90 : decode c_Tb_tellOfKeeper 90 = .ok (.ireturn, 1) := by decide +kernel
set_option maxHeartbeats 4000000 in
set_option maxRecDepth 100000 in
theorem m_Tb_tellOfKeeper {g0 : State} {d : zD} {l : Launch} {a0 : Array Value} (hs0 : zS0 d a0 g0) (hst : l.stackTraces = false) {G : zG} {A : Nat → Nat} {D : Nat → UInt64} {V : Nat → Nat → Int32} {nk ns : Nat} (hT : zT d A D V nk ns G) {ki : Nat} (hki : ki < nk) (w : Int32) : zMet g0 d l y_Tb_tellOfKeeper c_Tb_tellOfKeeper 3 ((Option.some Jvm.ClassFile.FieldType.int)) 12 0 0 [.ref (A 0), .ref (A (100 + ki)), .int w] (G) (zI1 G) (zNo) := by
  have hG_Tb := hT.tb
  have hnk : nk ≤ 8 := hT.2.1
  have hns : ns ≤ 6 := hT.2.2.1
  refine z_entry hs0 hst (by decide) (Nat.le_of_ble_eq_true rfl) (fun p e s m args below meth c => ?_)
  refine z_iload_n 2 d_Tb_tellOfKeeper_0 rfl rfl ?_
  by_cases e0 : w = 0
  · subst e0
    refine z_tableIn 40 d_Tb_tellOfKeeper_1 (by decide) (by decide) rfl (by decide) ?_
    refine z_aload_n 1 d_Tb_tellOfKeeper_40 rfl rfl ?_
    refine z_get zc_Ke 1 (by decide) qF_Tb_170 (hT.ke hki) rfl d_Tb_tellOfKeeper_41 ?_
    exact z_iret rfl (⟨⟨_, rfl⟩, rfl⟩) (by first | decide | omega) (by first | decide | omega) d_Tb_tellOfKeeper_44
  by_cases e1 : w = 1
  · subst e1
    refine z_tableIn 45 d_Tb_tellOfKeeper_1 (by decide) (by decide) rfl (by decide) ?_
    refine z_aload_n 1 d_Tb_tellOfKeeper_45 rfl rfl ?_
    refine z_get zc_Ke 2 (by decide) qF_Tb_363 (hT.ke hki) rfl d_Tb_tellOfKeeper_46 ?_
    exact z_iret rfl (⟨⟨_, rfl⟩, rfl⟩) (by first | decide | omega) (by first | decide | omega) d_Tb_tellOfKeeper_49
  by_cases e2 : w = 2
  · subst e2
    refine z_tableIn 50 d_Tb_tellOfKeeper_1 (by decide) (by decide) rfl (by decide) ?_
    refine z_aload_n 1 d_Tb_tellOfKeeper_50 rfl rfl ?_
    refine z_get zc_Ke 3 (by decide) qF_Tb_375 (hT.ke hki) rfl d_Tb_tellOfKeeper_51 ?_
    exact z_iret rfl (⟨⟨_, rfl⟩, rfl⟩) (by first | decide | omega) (by first | decide | omega) d_Tb_tellOfKeeper_54
  by_cases e3 : w = 3
  · subst e3
    refine z_tableIn 55 d_Tb_tellOfKeeper_1 (by decide) (by decide) rfl (by decide) ?_
    refine z_aload_n 1 d_Tb_tellOfKeeper_55 rfl rfl ?_
    refine z_get zc_Ke 4 (by decide) qF_Tb_96 (hT.ke hki) rfl d_Tb_tellOfKeeper_56 ?_
    exact z_iret rfl (⟨⟨_, rfl⟩, rfl⟩) (by first | decide | omega) (by first | decide | omega) d_Tb_tellOfKeeper_59
  by_cases e4 : w = 4
  · subst e4
    refine z_tableIn 60 d_Tb_tellOfKeeper_1 (by decide) (by decide) rfl (by decide) ?_
    refine z_aload_n 1 d_Tb_tellOfKeeper_60 rfl rfl ?_
    refine z_get zc_Ke 5 (by decide) qF_Tb_348 (hT.ke hki) rfl d_Tb_tellOfKeeper_61 ?_
    refine z_if_eq 71 d_Tb_tellOfKeeper_64 (by decide) (fun c_64 => ?_) (fun c_64 => ?_)
    · skip
      refine z_iconst (v := 0) d_Tb_tellOfKeeper_71 (by decide) ?_
      exact z_iret rfl (⟨⟨_, rfl⟩, rfl⟩) (by first | decide | omega) (by first | decide | omega) d_Tb_tellOfKeeper_72
    · skip
      refine z_iconst (v := 1) d_Tb_tellOfKeeper_67 (by decide) ?_
      refine z_goto 72 d_Tb_tellOfKeeper_68 (by decide) ?_
      exact z_iret rfl (⟨⟨_, rfl⟩, rfl⟩) (by first | decide | omega) (by first | decide | omega) d_Tb_tellOfKeeper_72
  by_cases e5 : w = 5
  · subst e5
    refine z_tableIn 73 d_Tb_tellOfKeeper_1 (by decide) (by decide) rfl (by decide) ?_
    refine z_aload_n 0 d_Tb_tellOfKeeper_73 rfl rfl ?_
    refine z_aload_n 1 d_Tb_tellOfKeeper_74 rfl rfl ?_
    refine z_get zc_Ke 0 (by decide) qF_Tb_383 (hT.ke hki) rfl d_Tb_tellOfKeeper_75 ?_
    rw [hT.kn hki]
    refine z_callV0 (m_Tb_sharesOf hs0 hst hT (show ki < 8 by omega)) ym_Tb_sharesOf qM_Tb_173 qI_Tb_sharesOf qV_Tb_Tb_sharesOf zc_Tb hG_Tb d_Tb_tellOfKeeper_78 rfl (Nat.le_of_ble_eq_true rfl) ⟨Nat.zero_le _, Nat.zero_le _⟩ ⟨Nat.le_of_ble_eq_true rfl, Nat.le_of_ble_eq_true rfl⟩ ?_
    exact z_iret rfl (⟨⟨_, rfl⟩, rfl⟩) (by first | decide | omega) (by first | decide | omega) d_Tb_tellOfKeeper_81
  have ed : w.toInt < 0 ∨ 5 < w.toInt := by
    simp only [← Int32.toInt_inj, Int32.reduceToInt] at e0 e1 e2 e3 e4 e5
    omega
  · skip
    refine z_tableOut 82 d_Tb_tellOfKeeper_1 (ed) (by decide) ?_
    refine z_aload_n 0 d_Tb_tellOfKeeper_82 rfl rfl ?_
    refine z_aload_n 1 d_Tb_tellOfKeeper_83 rfl rfl ?_
    refine z_get zc_Ke 0 (by decide) qF_Tb_383 (hT.ke hki) rfl d_Tb_tellOfKeeper_84 ?_
    rw [hT.kn hki]
    refine z_callV0 (m_Tb_staleSharesOf hs0 hst hT (show ki < 8 by omega)) ym_Tb_staleSharesOf qM_Tb_386 qI_Tb_staleSharesOf qV_Tb_Tb_staleSharesOf zc_Tb hG_Tb d_Tb_tellOfKeeper_87 rfl (Nat.le_of_ble_eq_true rfl) ⟨Nat.zero_le _, Nat.zero_le _⟩ ⟨Nat.le_of_ble_eq_true rfl, Nat.le_of_ble_eq_true rfl⟩ ?_
    exact z_iret rfl (⟨⟨_, rfl⟩, rfl⟩) (by first | decide | omega) (by first | decide | omega) d_Tb_tellOfKeeper_90
theorem d_Tb_tellOfSecret_0 : decode c_Tb_tellOfSecret 0 = .ok (.iload_n 2, 1) := by decide +kernel
theorem d_Tb_tellOfSecret_1 : decode c_Tb_tellOfSecret 1 = .ok (.tableswitch 91 0 7 #[47, 52, 57, 62, 67, 72, 77, 85], 47) := by decide +kernel
theorem d_Tb_tellOfSecret_48 : decode c_Tb_tellOfSecret 48 = .ok (.aload_n 1, 1) := by decide +kernel
theorem d_Tb_tellOfSecret_49 : decode c_Tb_tellOfSecret 49 = .ok (.getfield 147, 3) := by decide +kernel
theorem d_Tb_tellOfSecret_52 : decode c_Tb_tellOfSecret 52 = .ok (.ireturn, 1) := by decide +kernel
theorem d_Tb_tellOfSecret_53 : decode c_Tb_tellOfSecret 53 = .ok (.aload_n 1, 1) := by decide +kernel
theorem d_Tb_tellOfSecret_54 : decode c_Tb_tellOfSecret 54 = .ok (.getfield 357, 3) := by decide +kernel
theorem d_Tb_tellOfSecret_57 : decode c_Tb_tellOfSecret 57 = .ok (.ireturn, 1) := by decide +kernel
theorem d_Tb_tellOfSecret_58 : decode c_Tb_tellOfSecret 58 = .ok (.aload_n 1, 1) := by decide +kernel
theorem d_Tb_tellOfSecret_59 : decode c_Tb_tellOfSecret 59 = .ok (.getfield 360, 3) := by decide +kernel
theorem d_Tb_tellOfSecret_62 : decode c_Tb_tellOfSecret 62 = .ok (.ireturn, 1) := by decide +kernel
theorem d_Tb_tellOfSecret_63 : decode c_Tb_tellOfSecret 63 = .ok (.aload_n 1, 1) := by decide +kernel
theorem d_Tb_tellOfSecret_64 : decode c_Tb_tellOfSecret 64 = .ok (.getfield 152, 3) := by decide +kernel
theorem d_Tb_tellOfSecret_67 : decode c_Tb_tellOfSecret 67 = .ok (.ireturn, 1) := by decide +kernel
theorem d_Tb_tellOfSecret_68 : decode c_Tb_tellOfSecret 68 = .ok (.aload_n 1, 1) := by decide +kernel
theorem d_Tb_tellOfSecret_69 : decode c_Tb_tellOfSecret 69 = .ok (.invokevirtual 144, 3) := by decide +kernel
theorem d_Tb_tellOfSecret_72 : decode c_Tb_tellOfSecret 72 = .ok (.ireturn, 1) := by decide +kernel
theorem d_Tb_tellOfSecret_73 : decode c_Tb_tellOfSecret 73 = .ok (.aload_n 1, 1) := by decide +kernel
theorem d_Tb_tellOfSecret_74 : decode c_Tb_tellOfSecret 74 = .ok (.invokevirtual 158, 3) := by decide +kernel
theorem d_Tb_tellOfSecret_77 : decode c_Tb_tellOfSecret 77 = .ok (.ireturn, 1) := by decide +kernel
theorem d_Tb_tellOfSecret_78 : decode c_Tb_tellOfSecret 78 = .ok (.aload_n 1, 1) := by decide +kernel
theorem d_Tb_tellOfSecret_79 : decode c_Tb_tellOfSecret 79 = .ok (.getfield 213, 3) := by decide +kernel
theorem d_Tb_tellOfSecret_82 : decode c_Tb_tellOfSecret 82 = .ok (.invokestatic 105, 3) := by decide +kernel
theorem d_Tb_tellOfSecret_85 : decode c_Tb_tellOfSecret 85 = .ok (.ireturn, 1) := by decide +kernel
theorem d_Tb_tellOfSecret_86 : decode c_Tb_tellOfSecret 86 = .ok (.aload_n 0, 1) := by decide +kernel
theorem d_Tb_tellOfSecret_87 : decode c_Tb_tellOfSecret 87 = .ok (.aload_n 1, 1) := by decide +kernel
theorem d_Tb_tellOfSecret_88 : decode c_Tb_tellOfSecret 88 = .ok (.invokevirtual 389, 3) := by decide +kernel
theorem d_Tb_tellOfSecret_91 : decode c_Tb_tellOfSecret 91 = .ok (.ireturn, 1) := by decide +kernel
theorem d_Tb_tellOfSecret_92 : decode c_Tb_tellOfSecret 92 = .ok (.aload_n 0, 1) := by decide +kernel
theorem d_Tb_tellOfSecret_93 : decode c_Tb_tellOfSecret 93 = .ok (.aload_n 1, 1) := by decide +kernel
theorem d_Tb_tellOfSecret_94 : decode c_Tb_tellOfSecret 94 = .ok (.invokevirtual 392, 3) := by decide +kernel
theorem d_Tb_tellOfSecret_97 : decode c_Tb_tellOfSecret 97 = .ok (.ireturn, 1) := by decide +kernel
set_option maxHeartbeats 4000000 in
set_option maxRecDepth 100000 in
theorem m_Tb_tellOfSecret {g0 : State} {d : zD} {l : Launch} {a0 : Array Value} (hs0 : zS0 d a0 g0) (hst : l.stackTraces = false) {G : zG} {A : Nat → Nat} {D : Nat → UInt64} {V : Nat → Nat → Int32} {nk ns : Nat} (hT : zT d A D V nk ns G) {si : Nat} (hsi : si < ns) (w : Int32) : zMet g0 d l y_Tb_tellOfSecret c_Tb_tellOfSecret 3 ((Option.some Jvm.ClassFile.FieldType.int)) 14 0 0 [.ref (A 0), .ref (A (200 + si)), .int w] (G) (zI1 G) (zNo) := by
  have hG_Tb := hT.tb
  have hnk : nk ≤ 8 := hT.2.1
  have hns : ns ≤ 6 := hT.2.2.1
  obtain ⟨t, ht1, ht4, ht⟩ := hT.tn hsi
  have hS0 := hT.se hsi
  rw [ht] at hS0
  refine z_entry hs0 hst (by decide) (Nat.le_of_ble_eq_true rfl) (fun p e s m args below meth c => ?_)
  refine z_iload_n 2 d_Tb_tellOfSecret_0 rfl rfl ?_
  by_cases e0 : w = 0
  · subst e0
    refine z_tableIn 48 d_Tb_tellOfSecret_1 (by decide) (by decide) rfl (by decide) ?_
    refine z_aload_n 1 d_Tb_tellOfSecret_48 rfl rfl ?_
    refine z_get zc_Se 0 (by decide) qF_Tb_147 (hT.se hsi).1 rfl d_Tb_tellOfSecret_49 ?_
    exact z_iret rfl (⟨⟨_, rfl⟩, rfl⟩) (by first | decide | omega) (by first | decide | omega) d_Tb_tellOfSecret_52
  by_cases e1 : w = 1
  · subst e1
    refine z_tableIn 53 d_Tb_tellOfSecret_1 (by decide) (by decide) rfl (by decide) ?_
    refine z_aload_n 1 d_Tb_tellOfSecret_53 rfl rfl ?_
    refine z_get zc_Se 1 (by decide) qF_Tb_357 (hT.se hsi).1 rfl d_Tb_tellOfSecret_54 ?_
    exact z_iret rfl (⟨⟨_, rfl⟩, rfl⟩) (by first | decide | omega) (by first | decide | omega) d_Tb_tellOfSecret_57
  by_cases e2 : w = 2
  · subst e2
    refine z_tableIn 58 d_Tb_tellOfSecret_1 (by decide) (by decide) rfl (by decide) ?_
    refine z_aload_n 1 d_Tb_tellOfSecret_58 rfl rfl ?_
    refine z_get zc_Se 2 (by decide) qF_Tb_360 (hT.se hsi).1 rfl d_Tb_tellOfSecret_59 ?_
    exact z_iret rfl (⟨⟨_, rfl⟩, rfl⟩) (by first | decide | omega) (by first | decide | omega) d_Tb_tellOfSecret_62
  by_cases e3 : w = 3
  · subst e3
    refine z_tableIn 63 d_Tb_tellOfSecret_1 (by decide) (by decide) rfl (by decide) ?_
    refine z_aload_n 1 d_Tb_tellOfSecret_63 rfl rfl ?_
    refine z_get zc_Se 5 (by decide) qF_Tb_152 (hT.se hsi).1 rfl d_Tb_tellOfSecret_64 ?_
    exact z_iret rfl (⟨⟨_, rfl⟩, rfl⟩) (by first | decide | omega) (by first | decide | omega) d_Tb_tellOfSecret_67
  by_cases e4 : w = 4
  · subst e4
    refine z_tableIn 68 d_Tb_tellOfSecret_1 (by decide) (by decide) rfl (by decide) ?_
    refine z_aload_n 1 d_Tb_tellOfSecret_68 rfl rfl ?_
    refine z_callV0 (m_Se_currentSet hs0 hst (hT.se hsi)) ym_Se_currentSet qM_Tb_144 qI_Se_currentSet qV_Se_Se_currentSet zc_Se (hT.se hsi).1 d_Tb_tellOfSecret_69 rfl (Nat.le_of_ble_eq_true rfl) ⟨Nat.zero_le _, Nat.zero_le _⟩ ⟨Nat.le_of_ble_eq_true rfl, Nat.le_of_ble_eq_true rfl⟩ ?_
    exact z_iret rfl (⟨⟨_, rfl⟩, rfl⟩) (by first | decide | omega) (by first | decide | omega) d_Tb_tellOfSecret_72
  by_cases e5 : w = 5
  · subst e5
    refine z_tableIn 73 d_Tb_tellOfSecret_1 (by decide) (by decide) rfl (by decide) ?_
    refine z_aload_n 1 d_Tb_tellOfSecret_73 rfl rfl ?_
    refine z_callV0 (m_Se_staleSet hs0 hst (hT.se hsi)) ym_Se_staleSet qM_Tb_158 qI_Se_staleSet qV_Se_Se_staleSet zc_Se (hT.se hsi).1 d_Tb_tellOfSecret_74 rfl (Nat.le_of_ble_eq_true rfl) ⟨Nat.zero_le _, Nat.zero_le _⟩ ⟨Nat.le_of_ble_eq_true rfl, Nat.le_of_ble_eq_true rfl⟩ ?_
    exact z_iret rfl (⟨⟨_, rfl⟩, rfl⟩) (by first | decide | omega) (by first | decide | omega) d_Tb_tellOfSecret_77
  by_cases e6 : w = 6
  · subst e6
    refine z_tableIn 78 d_Tb_tellOfSecret_1 (by decide) (by decide) rfl (by decide) ?_
    refine z_aload_n 1 d_Tb_tellOfSecret_78 rfl rfl ?_
    refine z_get zc_Se 6 (by decide) qF_Tb_213 (hT.se hsi).1 rfl d_Tb_tellOfSecret_79 ?_
    refine z_callS0 (m_In_bitCount hs0 hst _) ym_In_bitCount qM_Tb_105 qS_In_bitCount d_Tb_tellOfSecret_82 rfl (Nat.le_of_ble_eq_true rfl) ⟨Nat.zero_le _, Nat.zero_le _⟩ ⟨Nat.le_of_ble_eq_true rfl, Nat.le_of_ble_eq_true rfl⟩ ?_
    exact z_iret rfl (⟨⟨_, rfl⟩, rfl⟩) (by first | decide | omega) (by first | decide | omega) d_Tb_tellOfSecret_85
  by_cases e7 : w = 7
  · subst e7
    refine z_tableIn 86 d_Tb_tellOfSecret_1 (by decide) (by decide) rfl (by decide) ?_
    refine z_aload_n 0 d_Tb_tellOfSecret_86 rfl rfl ?_
    refine z_aload_n 1 d_Tb_tellOfSecret_87 rfl rfl ?_
    refine z_callVp0 (m_Tb_boughtFor hs0 hst hT hS0 ht4) ym_Tb_boughtFor qM_Tb_389 qI_Tb_boughtFor qV_Tb_Tb_boughtFor zc_Tb hG_Tb d_Tb_tellOfSecret_88 rfl (Nat.le_of_ble_eq_true rfl) ⟨Nat.zero_le _, Nat.zero_le _⟩ ⟨Nat.le_of_ble_eq_true rfl, Nat.le_of_ble_eq_true rfl⟩ (fun r_88 G_88 hp_88 => ?_)
    obtain ⟨⟨v_88, rfl⟩, rfl⟩ := hp_88
    exact z_iret rfl (⟨⟨_, rfl⟩, rfl⟩) (by first | decide | omega) (by first | decide | omega) d_Tb_tellOfSecret_91
  have ed : w.toInt < 0 ∨ 7 < w.toInt := by
    simp only [← Int32.toInt_inj, Int32.reduceToInt] at e0 e1 e2 e3 e4 e5 e6 e7
    omega
  · skip
    refine z_tableOut 92 d_Tb_tellOfSecret_1 (ed) (by decide) ?_
    refine z_aload_n 0 d_Tb_tellOfSecret_92 rfl rfl ?_
    refine z_aload_n 1 d_Tb_tellOfSecret_93 rfl rfl ?_
    refine z_callVp0 (m_Tb_boughtOf hs0 hst hT hS0 ht4) ym_Tb_boughtOf qM_Tb_392 qI_Tb_boughtOf qV_Tb_Tb_boughtOf zc_Tb hG_Tb d_Tb_tellOfSecret_94 rfl (Nat.le_of_ble_eq_true rfl) ⟨Nat.zero_le _, Nat.zero_le _⟩ ⟨Nat.le_of_ble_eq_true rfl, Nat.le_of_ble_eq_true rfl⟩ (fun r_94 G_94 hp_94 => ?_)
    obtain ⟨⟨v_94, rfl⟩, rfl⟩ := hp_94
    exact z_iret rfl (⟨⟨_, rfl⟩, rfl⟩) (by first | decide | omega) (by first | decide | omega) d_Tb_tellOfSecret_97
theorem d_Tb_tellOfShare_0 : decode c_Tb_tellOfShare 0 = .ok (.aload_n 1, 1) := by decide +kernel
theorem d_Tb_tellOfShare_1 : decode c_Tb_tellOfShare 1 = .ok (.aload_n 2, 1) := by decide +kernel
theorem d_Tb_tellOfShare_2 : decode c_Tb_tellOfShare 2 = .ok (.getfield 383, 3) := by decide +kernel
theorem d_Tb_tellOfShare_5 : decode c_Tb_tellOfShare 5 = .ok (.invokevirtual 270, 3) := by decide +kernel
theorem d_Tb_tellOfShare_8 : decode c_Tb_tellOfShare 8 = .ok (.ifCond .ne 5, 3) := by decide +kernel
theorem d_Tb_tellOfShare_11 : decode c_Tb_tellOfShare 11 = .ok (.iconst (-1), 1) := by decide +kernel
theorem d_Tb_tellOfShare_12 : decode c_Tb_tellOfShare 12 = .ok (.ireturn, 1) := by decide +kernel
theorem d_Tb_tellOfShare_13 : decode c_Tb_tellOfShare 13 = .ok (.iload_n 3, 1) := by decide +kernel
theorem d_Tb_tellOfShare_14 : decode c_Tb_tellOfShare 14 = .ok (.lookupswitch 44 #[(0, 26), (1, 35)], 26) := by decide +kernel
theorem d_Tb_tellOfShare_40 : decode c_Tb_tellOfShare 40 = .ok (.aload_n 1, 1) := by decide +kernel
theorem d_Tb_tellOfShare_41 : decode c_Tb_tellOfShare 41 = .ok (.aload_n 2, 1) := by decide +kernel
theorem d_Tb_tellOfShare_42 : decode c_Tb_tellOfShare 42 = .ok (.getfield 383, 3) := by decide +kernel
theorem d_Tb_tellOfShare_45 : decode c_Tb_tellOfShare 45 = .ok (.invokevirtual 155, 3) := by decide +kernel
theorem d_Tb_tellOfShare_48 : decode c_Tb_tellOfShare 48 = .ok (.ireturn, 1) := by decide +kernel
theorem d_Tb_tellOfShare_49 : decode c_Tb_tellOfShare 49 = .ok (.aload_n 1, 1) := by decide +kernel
theorem d_Tb_tellOfShare_50 : decode c_Tb_tellOfShare 50 = .ok (.aload_n 2, 1) := by decide +kernel
theorem d_Tb_tellOfShare_51 : decode c_Tb_tellOfShare 51 = .ok (.getfield 383, 3) := by decide +kernel
theorem d_Tb_tellOfShare_54 : decode c_Tb_tellOfShare 54 = .ok (.invokevirtual 395, 3) := by decide +kernel
theorem d_Tb_tellOfShare_57 : decode c_Tb_tellOfShare 57 = .ok (.ireturn, 1) := by decide +kernel
theorem d_Tb_tellOfShare_58 : decode c_Tb_tellOfShare 58 = .ok (.aload_n 1, 1) := by decide +kernel
theorem d_Tb_tellOfShare_59 : decode c_Tb_tellOfShare 59 = .ok (.aload_n 2, 1) := by decide +kernel
theorem d_Tb_tellOfShare_60 : decode c_Tb_tellOfShare 60 = .ok (.getfield 383, 3) := by decide +kernel
theorem d_Tb_tellOfShare_63 : decode c_Tb_tellOfShare 63 = .ok (.invokevirtual 155, 3) := by decide +kernel
theorem d_Tb_tellOfShare_66 : decode c_Tb_tellOfShare 66 = .ok (.aload_n 2, 1) := by decide +kernel
theorem d_Tb_tellOfShare_67 : decode c_Tb_tellOfShare 67 = .ok (.getfield 96, 3) := by decide +kernel
theorem d_Tb_tellOfShare_70 : decode c_Tb_tellOfShare 70 = .ok (.iadd, 1) := by decide +kernel
theorem d_Tb_tellOfShare_71 : decode c_Tb_tellOfShare 71 = .ok (.bipush 97, 2) := by decide +kernel
theorem d_Tb_tellOfShare_73 : decode c_Tb_tellOfShare 73 = .ok (.irem, 1) := by decide +kernel
theorem d_Tb_tellOfShare_74 : decode c_Tb_tellOfShare 74 = .ok (.ireturn, 1) := by decide +kernel
set_option maxHeartbeats 4000000 in
set_option maxRecDepth 100000 in
theorem m_Tb_tellOfShare {g0 : State} {d : zD} {l : Launch} {a0 : Array Value} (hs0 : zS0 d a0 g0) (hst : l.stackTraces = false) {G : zG} {A : Nat → Nat} {D : Nat → UInt64} {V : Nat → Nat → Int32} {nk ns : Nat} (hT : zT d A D V nk ns G) {si : Nat} (hsi : si < ns) {ki : Nat} (hki : ki < nk) (w : Int32) : zMet g0 d l y_Tb_tellOfShare c_Tb_tellOfShare 4 ((Option.some Jvm.ClassFile.FieldType.int)) 3 0 0 [.ref (A 0), .ref (A (200 + si)), .ref (A (100 + ki)), .int w] (G) (zI1 G) (zNo) := by
  have hG_Tb := hT.tb
  have hnk : nk ≤ 8 := hT.2.1
  have hns : ns ≤ 6 := hT.2.2.1
  have hk8 : ki < 8 := by omega
  refine z_entry hs0 hst (by decide) (Nat.le_of_ble_eq_true rfl) (fun p e s m args below meth c => ?_)
  refine z_aload_n 1 d_Tb_tellOfShare_0 rfl rfl ?_
  refine z_aload_n 2 d_Tb_tellOfShare_1 rfl rfl ?_
  refine z_get zc_Ke 0 (by decide) qF_Tb_383 (hT.ke hki) rfl d_Tb_tellOfShare_2 ?_
  rw [hT.kn hki]
  refine z_callV0 (m_Se_has hs0 hst (hT.se hsi) hk8) ym_Se_has qM_Tb_270 qI_Se_has qV_Se_Se_has zc_Se (hT.se hsi).1 d_Tb_tellOfShare_5 rfl (Nat.le_of_ble_eq_true rfl) ⟨Nat.zero_le _, Nat.zero_le _⟩ ⟨Nat.le_of_ble_eq_true rfl, Nat.le_of_ble_eq_true rfl⟩ ?_
  refine z_if_ne 13 d_Tb_tellOfShare_8 (by decide) (fun c_8 => ?_) (fun c_8 => ?_)
  · skip
    refine z_iload_n 3 d_Tb_tellOfShare_13 rfl rfl ?_
    by_cases e0 : w = 0
    · subst e0
      refine z_lookup (off := 26) 40 d_Tb_tellOfShare_14 (by decide) (by decide +kernel) (by decide) ?_
      refine z_aload_n 1 d_Tb_tellOfShare_40 rfl rfl ?_
      refine z_aload_n 2 d_Tb_tellOfShare_41 rfl rfl ?_
      refine z_get zc_Ke 0 (by decide) qF_Tb_383 (hT.ke hki) rfl d_Tb_tellOfShare_42 ?_
      rw [hT.kn hki]
      refine z_callV0 (m_Se_shareOf hs0 hst (hT.se hsi) hk8) ym_Se_shareOf qM_Tb_155 qI_Se_shareOf qV_Se_Se_shareOf zc_Se (hT.se hsi).1 d_Tb_tellOfShare_45 rfl (Nat.le_of_ble_eq_true rfl) ⟨Nat.zero_le _, Nat.zero_le _⟩ ⟨Nat.le_of_ble_eq_true rfl, Nat.le_of_ble_eq_true rfl⟩ ?_
      exact z_iret rfl (⟨⟨_, rfl⟩, rfl⟩) (by first | decide | omega) (by first | decide | omega) d_Tb_tellOfShare_48
    by_cases e1 : w = 1
    · subst e1
      refine z_lookup (off := 35) 49 d_Tb_tellOfShare_14 (by decide) (by decide +kernel) (by decide) ?_
      refine z_aload_n 1 d_Tb_tellOfShare_49 rfl rfl ?_
      refine z_aload_n 2 d_Tb_tellOfShare_50 rfl rfl ?_
      refine z_get zc_Ke 0 (by decide) qF_Tb_383 (hT.ke hki) rfl d_Tb_tellOfShare_51 ?_
      rw [hT.kn hki]
      refine z_callV0 (m_Se_epochOf hs0 hst (hT.se hsi) hk8) ym_Se_epochOf qM_Tb_395 qI_Se_epochOf qV_Se_Se_epochOf zc_Se (hT.se hsi).1 d_Tb_tellOfShare_54 rfl (Nat.le_of_ble_eq_true rfl) ⟨Nat.zero_le _, Nat.zero_le _⟩ ⟨Nat.le_of_ble_eq_true rfl, Nat.le_of_ble_eq_true rfl⟩ ?_
      exact z_iret rfl (⟨⟨_, rfl⟩, rfl⟩) (by first | decide | omega) (by first | decide | omega) d_Tb_tellOfShare_57
    refine z_lookup (off := 44) 58 d_Tb_tellOfShare_14 (by decide) ((lv_osw e0 rfl).trans ((lv_osw e1 rfl).trans (rfl))) (by decide) ?_
    refine z_aload_n 1 d_Tb_tellOfShare_58 rfl rfl ?_
    refine z_aload_n 2 d_Tb_tellOfShare_59 rfl rfl ?_
    refine z_get zc_Ke 0 (by decide) qF_Tb_383 (hT.ke hki) rfl d_Tb_tellOfShare_60 ?_
    rw [hT.kn hki]
    refine z_callV0 (m_Se_shareOf hs0 hst (hT.se hsi) hk8) ym_Se_shareOf qM_Tb_155 qI_Se_shareOf qV_Se_Se_shareOf zc_Se (hT.se hsi).1 d_Tb_tellOfShare_63 rfl (Nat.le_of_ble_eq_true rfl) ⟨Nat.zero_le _, Nat.zero_le _⟩ ⟨Nat.le_of_ble_eq_true rfl, Nat.le_of_ble_eq_true rfl⟩ ?_
    refine z_aload_n 2 d_Tb_tellOfShare_66 rfl rfl ?_
    refine z_get zc_Ke 4 (by decide) qF_Tb_96 (hT.ke hki) rfl d_Tb_tellOfShare_67 ?_
    refine z_iadd d_Tb_tellOfShare_70 ?_
    refine z_bipush (v := 97) d_Tb_tellOfShare_71 (by decide) ?_
    refine z_irem d_Tb_tellOfShare_73 (by decide) ?_
    exact z_iret rfl (⟨⟨_, rfl⟩, rfl⟩) (by first | decide | omega) (by first | decide | omega) d_Tb_tellOfShare_74
  · skip
    refine z_iconst (v := (-1)) d_Tb_tellOfShare_11 (by decide) ?_
    exact z_iret rfl (⟨⟨_, rfl⟩, rfl⟩) (by first | decide | omega) (by first | decide | omega) d_Tb_tellOfShare_12
theorem d_Tb_tellOfBank_0 : decode c_Tb_tellOfBank 0 = .ok (.iload_n 1, 1) := by decide +kernel
theorem d_Tb_tellOfBank_1 : decode c_Tb_tellOfBank 1 = .ok (.tableswitch 129 0 10 #[59, 67, 75, 80, 88, 96, 104, 109, 114, 119, 124], 59) := by decide +kernel
theorem d_Tb_tellOfBank_60 : decode c_Tb_tellOfBank 60 = .ok (.aload_n 0, 1) := by decide +kernel
theorem d_Tb_tellOfBank_61 : decode c_Tb_tellOfBank 61 = .ok (.getfield 10, 3) := by decide +kernel
theorem d_Tb_tellOfBank_64 : decode c_Tb_tellOfBank 64 = .ok (.invokevirtual 68, 3) := by decide +kernel
theorem d_Tb_tellOfBank_67 : decode c_Tb_tellOfBank 67 = .ok (.ireturn, 1) := by decide +kernel
theorem d_Tb_tellOfBank_68 : decode c_Tb_tellOfBank 68 = .ok (.aload_n 0, 1) := by decide +kernel
theorem d_Tb_tellOfBank_69 : decode c_Tb_tellOfBank 69 = .ok (.getfield 16, 3) := by decide +kernel
theorem d_Tb_tellOfBank_72 : decode c_Tb_tellOfBank 72 = .ok (.invokevirtual 68, 3) := by decide +kernel
theorem d_Tb_tellOfBank_75 : decode c_Tb_tellOfBank 75 = .ok (.ireturn, 1) := by decide +kernel
theorem d_Tb_tellOfBank_76 : decode c_Tb_tellOfBank 76 = .ok (.aload_n 0, 1) := by decide +kernel
theorem d_Tb_tellOfBank_77 : decode c_Tb_tellOfBank 77 = .ok (.getfield 44, 3) := by decide +kernel
theorem d_Tb_tellOfBank_80 : decode c_Tb_tellOfBank 80 = .ok (.ireturn, 1) := by decide +kernel
theorem d_Tb_tellOfBank_81 : decode c_Tb_tellOfBank 81 = .ok (.aload_n 0, 1) := by decide +kernel
theorem d_Tb_tellOfBank_82 : decode c_Tb_tellOfBank 82 = .ok (.getfield 29, 3) := by decide +kernel
theorem d_Tb_tellOfBank_85 : decode c_Tb_tellOfBank 85 = .ok (.getfield 398, 3) := by decide +kernel
theorem d_Tb_tellOfBank_88 : decode c_Tb_tellOfBank 88 = .ok (.ireturn, 1) := by decide +kernel
theorem d_Tb_tellOfBank_89 : decode c_Tb_tellOfBank 89 = .ok (.aload_n 0, 1) := by decide +kernel
theorem d_Tb_tellOfBank_90 : decode c_Tb_tellOfBank 90 = .ok (.getfield 22, 3) := by decide +kernel
theorem d_Tb_tellOfBank_93 : decode c_Tb_tellOfBank 93 = .ok (.invokevirtual 322, 3) := by decide +kernel
theorem d_Tb_tellOfBank_96 : decode c_Tb_tellOfBank 96 = .ok (.ireturn, 1) := by decide +kernel
theorem d_Tb_tellOfBank_97 : decode c_Tb_tellOfBank 97 = .ok (.aload_n 0, 1) := by decide +kernel
theorem d_Tb_tellOfBank_98 : decode c_Tb_tellOfBank 98 = .ok (.getfield 22, 3) := by decide +kernel
theorem d_Tb_tellOfBank_101 : decode c_Tb_tellOfBank 101 = .ok (.invokevirtual 401, 3) := by decide +kernel
theorem d_Tb_tellOfBank_104 : decode c_Tb_tellOfBank 104 = .ok (.ireturn, 1) := by decide +kernel
theorem d_Tb_tellOfBank_105 : decode c_Tb_tellOfBank 105 = .ok (.aload_n 0, 1) := by decide +kernel
theorem d_Tb_tellOfBank_106 : decode c_Tb_tellOfBank 106 = .ok (.getfield 48, 3) := by decide +kernel
theorem d_Tb_tellOfBank_109 : decode c_Tb_tellOfBank 109 = .ok (.ireturn, 1) := by decide +kernel
theorem d_Tb_tellOfBank_110 : decode c_Tb_tellOfBank 110 = .ok (.aload_n 0, 1) := by decide +kernel
theorem d_Tb_tellOfBank_111 : decode c_Tb_tellOfBank 111 = .ok (.getfield 51, 3) := by decide +kernel
theorem d_Tb_tellOfBank_114 : decode c_Tb_tellOfBank 114 = .ok (.ireturn, 1) := by decide +kernel
theorem d_Tb_tellOfBank_115 : decode c_Tb_tellOfBank 115 = .ok (.aload_n 0, 1) := by decide +kernel
theorem d_Tb_tellOfBank_116 : decode c_Tb_tellOfBank 116 = .ok (.getfield 54, 3) := by decide +kernel
theorem d_Tb_tellOfBank_119 : decode c_Tb_tellOfBank 119 = .ok (.ireturn, 1) := by decide +kernel
theorem d_Tb_tellOfBank_120 : decode c_Tb_tellOfBank 120 = .ok (.aload_n 0, 1) := by decide +kernel
theorem d_Tb_tellOfBank_121 : decode c_Tb_tellOfBank 121 = .ok (.invokevirtual 404, 3) := by decide +kernel
theorem d_Tb_tellOfBank_124 : decode c_Tb_tellOfBank 124 = .ok (.ireturn, 1) := by decide +kernel
theorem d_Tb_tellOfBank_125 : decode c_Tb_tellOfBank 125 = .ok (.aload_n 0, 1) := by decide +kernel
theorem d_Tb_tellOfBank_126 : decode c_Tb_tellOfBank 126 = .ok (.invokevirtual 407, 3) := by decide +kernel
theorem d_Tb_tellOfBank_129 : decode c_Tb_tellOfBank 129 = .ok (.ireturn, 1) := by decide +kernel
theorem d_Tb_tellOfBank_130 : decode c_Tb_tellOfBank 130 = .ok (.aload_n 0, 1) := by decide +kernel
theorem d_Tb_tellOfBank_131 : decode c_Tb_tellOfBank 131 = .ok (.invokevirtual 410, 3) := by decide +kernel
theorem d_Tb_tellOfBank_134 : decode c_Tb_tellOfBank 134 = .ok (.ireturn, 1) := by decide +kernel
set_option maxHeartbeats 4000000 in
set_option maxRecDepth 100000 in
theorem m_Tb_tellOfBank {g0 : State} {d : zD} {l : Launch} {a0 : Array Value} (hs0 : zS0 d a0 g0) (hst : l.stackTraces = false) {G : zG} {A : Nat → Nat} {D : Nat → UInt64} {V : Nat → Nat → Int32} {nk ns : Nat} (hT : zT d A D V nk ns G) (w : Int32) : zMet g0 d l y_Tb_tellOfBank c_Tb_tellOfBank 2 ((Option.some Jvm.ClassFile.FieldType.int)) 12 0 0 [.ref (A 0), .int w] (G) (zI1 G) (zNo) := by
  have hG_Tb := hT.tb
  have hnk : nk ≤ 8 := hT.2.1
  have hns : ns ≤ 6 := hT.2.2.1
  refine z_entry hs0 hst (by decide) (Nat.le_of_ble_eq_true rfl) (fun p e s m args below meth c => ?_)
  refine z_iload_n 1 d_Tb_tellOfBank_0 rfl rfl ?_
  by_cases e0 : w = 0
  · subst e0
    refine z_tableIn 60 d_Tb_tellOfBank_1 (by decide) (by decide) rfl (by decide) ?_
    refine z_aload_n 0 d_Tb_tellOfBank_60 rfl rfl ?_
    refine z_get zc_Tb 0 (by decide) qF_Tb_10 hG_Tb rfl d_Tb_tellOfBank_61 ?_
    refine z_callV0 (m_AL_size hs0 hst hT.kl) ym_AL_size qM_Tb_68 qI_AL_size qV_AL_AL_size zc_AL hT.kl d_Tb_tellOfBank_64 rfl (Nat.le_of_ble_eq_true rfl) ⟨Nat.zero_le _, Nat.zero_le _⟩ ⟨Nat.le_of_ble_eq_true rfl, Nat.le_of_ble_eq_true rfl⟩ ?_
    exact z_iret rfl (⟨⟨_, rfl⟩, rfl⟩) (by first | decide | omega) (by first | decide | omega) d_Tb_tellOfBank_67
  by_cases e1 : w = 1
  · subst e1
    refine z_tableIn 68 d_Tb_tellOfBank_1 (by decide) (by decide) rfl (by decide) ?_
    refine z_aload_n 0 d_Tb_tellOfBank_68 rfl rfl ?_
    refine z_get zc_Tb 1 (by decide) qF_Tb_16 hG_Tb rfl d_Tb_tellOfBank_69 ?_
    refine z_callV0 (m_AL_size hs0 hst hT.sl) ym_AL_size qM_Tb_68 qI_AL_size qV_AL_AL_size zc_AL hT.sl d_Tb_tellOfBank_72 rfl (Nat.le_of_ble_eq_true rfl) ⟨Nat.zero_le _, Nat.zero_le _⟩ ⟨Nat.le_of_ble_eq_true rfl, Nat.le_of_ble_eq_true rfl⟩ ?_
    exact z_iret rfl (⟨⟨_, rfl⟩, rfl⟩) (by first | decide | omega) (by first | decide | omega) d_Tb_tellOfBank_75
  by_cases e2 : w = 2
  · subst e2
    refine z_tableIn 76 d_Tb_tellOfBank_1 (by decide) (by decide) rfl (by decide) ?_
    refine z_aload_n 0 d_Tb_tellOfBank_76 rfl rfl ?_
    refine z_get zc_Tb 6 (by decide) qF_Tb_44 hG_Tb rfl d_Tb_tellOfBank_77 ?_
    exact z_iret rfl (⟨⟨_, rfl⟩, rfl⟩) (by first | decide | omega) (by first | decide | omega) d_Tb_tellOfBank_80
  by_cases e3 : w = 3
  · subst e3
    refine z_tableIn 81 d_Tb_tellOfBank_1 (by decide) (by decide) rfl (by decide) ?_
    refine z_aload_n 0 d_Tb_tellOfBank_81 rfl rfl ?_
    refine z_get zc_Tb 3 (by decide) qF_Tb_29 hG_Tb rfl d_Tb_tellOfBank_82 ?_
    refine z_get zc_Cu 1 (by decide) qF_Tb_398 hT.cu rfl d_Tb_tellOfBank_85 ?_
    exact z_iret rfl (⟨⟨_, rfl⟩, rfl⟩) (by first | decide | omega) (by first | decide | omega) d_Tb_tellOfBank_88
  by_cases e4 : w = 4
  · subst e4
    refine z_tableIn 89 d_Tb_tellOfBank_1 (by decide) (by decide) rfl (by decide) ?_
    refine z_aload_n 0 d_Tb_tellOfBank_89 rfl rfl ?_
    refine z_get zc_Tb 2 (by decide) qF_Tb_22 hG_Tb rfl d_Tb_tellOfBank_90 ?_
    refine z_callV0 (m_Re_size hs0 hst hT.re) ym_Re_size qM_Tb_322 qI_Re_size qV_Re_Re_size zc_Re hT.re d_Tb_tellOfBank_93 rfl (Nat.le_of_ble_eq_true rfl) ⟨Nat.zero_le _, Nat.zero_le _⟩ ⟨Nat.le_of_ble_eq_true rfl, Nat.le_of_ble_eq_true rfl⟩ ?_
    exact z_iret rfl (⟨⟨_, rfl⟩, rfl⟩) (by first | decide | omega) (by first | decide | omega) d_Tb_tellOfBank_96
  by_cases e5 : w = 5
  · subst e5
    refine z_tableIn 97 d_Tb_tellOfBank_1 (by decide) (by decide) rfl (by decide) ?_
    refine z_aload_n 0 d_Tb_tellOfBank_97 rfl rfl ?_
    refine z_get zc_Tb 2 (by decide) qF_Tb_22 hG_Tb rfl d_Tb_tellOfBank_98 ?_
    refine z_callV0 (m_Re_root hs0 hst hT.re (hT.1.2 9 (tl_s 9))) ym_Re_root qM_Tb_401 qI_Re_root qV_Re_Re_root zc_Re hT.re d_Tb_tellOfBank_101 rfl (Nat.le_of_ble_eq_true rfl) ⟨Nat.zero_le _, Nat.zero_le _⟩ ⟨Nat.le_of_ble_eq_true rfl, Nat.le_of_ble_eq_true rfl⟩ ?_
    exact z_iret rfl (⟨⟨_, rfl⟩, rfl⟩) (by first | decide | omega) (by first | decide | omega) d_Tb_tellOfBank_104
  by_cases e6 : w = 6
  · subst e6
    refine z_tableIn 105 d_Tb_tellOfBank_1 (by decide) (by decide) rfl (by decide) ?_
    refine z_aload_n 0 d_Tb_tellOfBank_105 rfl rfl ?_
    refine z_get zc_Tb 7 (by decide) qF_Tb_48 hG_Tb rfl d_Tb_tellOfBank_106 ?_
    exact z_iret rfl (⟨⟨_, rfl⟩, rfl⟩) (by first | decide | omega) (by first | decide | omega) d_Tb_tellOfBank_109
  by_cases e7 : w = 7
  · subst e7
    refine z_tableIn 110 d_Tb_tellOfBank_1 (by decide) (by decide) rfl (by decide) ?_
    refine z_aload_n 0 d_Tb_tellOfBank_110 rfl rfl ?_
    refine z_get zc_Tb 8 (by decide) qF_Tb_51 hG_Tb rfl d_Tb_tellOfBank_111 ?_
    exact z_iret rfl (⟨⟨_, rfl⟩, rfl⟩) (by first | decide | omega) (by first | decide | omega) d_Tb_tellOfBank_114
  by_cases e8 : w = 8
  · subst e8
    refine z_tableIn 115 d_Tb_tellOfBank_1 (by decide) (by decide) rfl (by decide) ?_
    refine z_aload_n 0 d_Tb_tellOfBank_115 rfl rfl ?_
    refine z_get zc_Tb 9 (by decide) qF_Tb_54 hG_Tb rfl d_Tb_tellOfBank_116 ?_
    exact z_iret rfl (⟨⟨_, rfl⟩, rfl⟩) (by first | decide | omega) (by first | decide | omega) d_Tb_tellOfBank_119
  by_cases e9 : w = 9
  · subst e9
    refine z_tableIn 120 d_Tb_tellOfBank_1 (by decide) (by decide) rfl (by decide) ?_
    refine z_aload_n 0 d_Tb_tellOfBank_120 rfl rfl ?_
    refine z_callVp0 (m_Tb_notedKeepers hs0 hst hT) ym_Tb_notedKeepers qM_Tb_404 qI_Tb_notedKeepers qV_Tb_Tb_notedKeepers zc_Tb hG_Tb d_Tb_tellOfBank_121 rfl (Nat.le_of_ble_eq_true rfl) ⟨Nat.zero_le _, Nat.zero_le _⟩ ⟨Nat.le_of_ble_eq_true rfl, Nat.le_of_ble_eq_true rfl⟩ (fun r_121 G_121 hp_121 => ?_)
    obtain ⟨⟨v_121, rfl⟩, rfl⟩ := hp_121
    exact z_iret rfl (⟨⟨_, rfl⟩, rfl⟩) (by first | decide | omega) (by first | decide | omega) d_Tb_tellOfBank_124
  by_cases e10 : w = 10
  · subst e10
    refine z_tableIn 125 d_Tb_tellOfBank_1 (by decide) (by decide) rfl (by decide) ?_
    refine z_aload_n 0 d_Tb_tellOfBank_125 rfl rfl ?_
    refine z_callVp0 (m_Tb_currentShares hs0 hst hT) ym_Tb_currentShares qM_Tb_407 qI_Tb_currentShares qV_Tb_Tb_currentShares zc_Tb hG_Tb d_Tb_tellOfBank_126 rfl (Nat.le_of_ble_eq_true rfl) ⟨Nat.zero_le _, Nat.zero_le _⟩ ⟨Nat.le_of_ble_eq_true rfl, Nat.le_of_ble_eq_true rfl⟩ (fun r_126 G_126 hp_126 => ?_)
    obtain ⟨⟨v_126, rfl⟩, rfl⟩ := hp_126
    exact z_iret rfl (⟨⟨_, rfl⟩, rfl⟩) (by first | decide | omega) (by first | decide | omega) d_Tb_tellOfBank_129
  have ed : w.toInt < 0 ∨ 10 < w.toInt := by
    simp only [← Int32.toInt_inj, Int32.reduceToInt] at e0 e1 e2 e3 e4 e5 e6 e7 e8 e9 e10
    omega
  · skip
    refine z_tableOut 130 d_Tb_tellOfBank_1 (ed) (by decide) ?_
    refine z_aload_n 0 d_Tb_tellOfBank_130 rfl rfl ?_
    refine z_callVp0 (m_Tb_staleShares hs0 hst hT) ym_Tb_staleShares qM_Tb_410 qI_Tb_staleShares qV_Tb_Tb_staleShares zc_Tb hG_Tb d_Tb_tellOfBank_131 rfl (Nat.le_of_ble_eq_true rfl) ⟨Nat.zero_le _, Nat.zero_le _⟩ ⟨Nat.le_of_ble_eq_true rfl, Nat.le_of_ble_eq_true rfl⟩ (fun r_131 G_131 hp_131 => ?_)
    obtain ⟨⟨v_131, rfl⟩, rfl⟩ := hp_131
    exact z_iret rfl (⟨⟨_, rfl⟩, rfl⟩) (by first | decide | omega) (by first | decide | omega) d_Tb_tellOfBank_134
theorem d_Tb_tellOfGroup_0 : decode c_Tb_tellOfGroup 0 = .ok (.iload_n 2, 1) := by decide +kernel
theorem d_Tb_tellOfGroup_1 : decode c_Tb_tellOfGroup 1 = .ok (.tableswitch 125 0 4 #[35, 43, 64, 80, 103], 35) := by decide +kernel
theorem d_Tb_tellOfGroup_36 : decode c_Tb_tellOfGroup 36 = .ok (.aload_n 0, 1) := by decide +kernel
theorem d_Tb_tellOfGroup_37 : decode c_Tb_tellOfGroup 37 = .ok (.getfield 36, 3) := by decide +kernel
theorem d_Tb_tellOfGroup_40 : decode c_Tb_tellOfGroup 40 = .ok (.invokevirtual 210, 3) := by decide +kernel
theorem d_Tb_tellOfGroup_43 : decode c_Tb_tellOfGroup 43 = .ok (.ireturn, 1) := by decide +kernel
theorem d_Tb_tellOfGroup_44 : decode c_Tb_tellOfGroup 44 = .ok (.aload_n 0, 1) := by decide +kernel
theorem d_Tb_tellOfGroup_45 : decode c_Tb_tellOfGroup 45 = .ok (.aload_n 1, 1) := by decide +kernel
theorem d_Tb_tellOfGroup_46 : decode c_Tb_tellOfGroup 46 = .ok (.aload_n 0, 1) := by decide +kernel
theorem d_Tb_tellOfGroup_47 : decode c_Tb_tellOfGroup 47 = .ok (.getfield 36, 3) := by decide +kernel
theorem d_Tb_tellOfGroup_50 : decode c_Tb_tellOfGroup 50 = .ok (.invokevirtual 200, 3) := by decide +kernel
theorem d_Tb_tellOfGroup_53 : decode c_Tb_tellOfGroup 53 = .ok (.invokevirtual 220, 3) := by decide +kernel
theorem d_Tb_tellOfGroup_56 : decode c_Tb_tellOfGroup 56 = .ok (.ifCond .eq 7, 3) := by decide +kernel
theorem d_Tb_tellOfGroup_59 : decode c_Tb_tellOfGroup 59 = .ok (.iconst 1, 1) := by decide +kernel
theorem d_Tb_tellOfGroup_60 : decode c_Tb_tellOfGroup 60 = .ok (.goto 4, 3) := by decide +kernel
theorem d_Tb_tellOfGroup_63 : decode c_Tb_tellOfGroup 63 = .ok (.iconst 0, 1) := by decide +kernel
theorem d_Tb_tellOfGroup_64 : decode c_Tb_tellOfGroup 64 = .ok (.ireturn, 1) := by decide +kernel
theorem d_Tb_tellOfGroup_65 : decode c_Tb_tellOfGroup 65 = .ok (.aload_n 0, 1) := by decide +kernel
theorem d_Tb_tellOfGroup_66 : decode c_Tb_tellOfGroup 66 = .ok (.getfield 36, 3) := by decide +kernel
theorem d_Tb_tellOfGroup_69 : decode c_Tb_tellOfGroup 69 = .ok (.invokevirtual 191, 3) := by decide +kernel
theorem d_Tb_tellOfGroup_72 : decode c_Tb_tellOfGroup 72 = .ok (.ifCond .eq 7, 3) := by decide +kernel
theorem d_Tb_tellOfGroup_75 : decode c_Tb_tellOfGroup 75 = .ok (.iconst 1, 1) := by decide +kernel
theorem d_Tb_tellOfGroup_76 : decode c_Tb_tellOfGroup 76 = .ok (.goto 4, 3) := by decide +kernel
theorem d_Tb_tellOfGroup_79 : decode c_Tb_tellOfGroup 79 = .ok (.iconst 0, 1) := by decide +kernel
theorem d_Tb_tellOfGroup_80 : decode c_Tb_tellOfGroup 80 = .ok (.ireturn, 1) := by decide +kernel
theorem d_Tb_tellOfGroup_81 : decode c_Tb_tellOfGroup 81 = .ok (.aload_n 0, 1) := by decide +kernel
theorem d_Tb_tellOfGroup_82 : decode c_Tb_tellOfGroup 82 = .ok (.getfield 36, 3) := by decide +kernel
theorem d_Tb_tellOfGroup_85 : decode c_Tb_tellOfGroup 85 = .ok (.invokevirtual 191, 3) := by decide +kernel
theorem d_Tb_tellOfGroup_88 : decode c_Tb_tellOfGroup 88 = .ok (.ifCond .eq 14, 3) := by decide +kernel
theorem d_Tb_tellOfGroup_91 : decode c_Tb_tellOfGroup 91 = .ok (.aload_n 0, 1) := by decide +kernel
theorem d_Tb_tellOfGroup_92 : decode c_Tb_tellOfGroup 92 = .ok (.getfield 36, 3) := by decide +kernel
theorem d_Tb_tellOfGroup_95 : decode c_Tb_tellOfGroup 95 = .ok (.iconst 0, 1) := by decide +kernel
theorem d_Tb_tellOfGroup_96 : decode c_Tb_tellOfGroup 96 = .ok (.invokevirtual 197, 3) := by decide +kernel
theorem d_Tb_tellOfGroup_99 : decode c_Tb_tellOfGroup 99 = .ok (.goto 4, 3) := by decide +kernel
theorem d_Tb_tellOfGroup_102 : decode c_Tb_tellOfGroup 102 = .ok (.iconst (-1), 1) := by decide +kernel
theorem d_Tb_tellOfGroup_103 : decode c_Tb_tellOfGroup 103 = .ok (.ireturn, 1) := by decide +kernel
theorem d_Tb_tellOfGroup_104 : decode c_Tb_tellOfGroup 104 = .ok (.aload_n 0, 1) := by decide +kernel
theorem d_Tb_tellOfGroup_105 : decode c_Tb_tellOfGroup 105 = .ok (.getfield 36, 3) := by decide +kernel
theorem d_Tb_tellOfGroup_108 : decode c_Tb_tellOfGroup 108 = .ok (.invokevirtual 191, 3) := by decide +kernel
theorem d_Tb_tellOfGroup_111 : decode c_Tb_tellOfGroup 111 = .ok (.ifCond .eq 13, 3) := by decide +kernel
theorem d_Tb_tellOfGroup_114 : decode c_Tb_tellOfGroup 114 = .ok (.aload_n 0, 1) := by decide +kernel
theorem d_Tb_tellOfGroup_115 : decode c_Tb_tellOfGroup 115 = .ok (.getfield 36, 3) := by decide +kernel
theorem d_Tb_tellOfGroup_118 : decode c_Tb_tellOfGroup 118 = .ok (.invokevirtual 224, 3) := by decide +kernel
theorem d_Tb_tellOfGroup_121 : decode c_Tb_tellOfGroup 121 = .ok (.goto 4, 3) := by decide +kernel
theorem d_Tb_tellOfGroup_124 : decode c_Tb_tellOfGroup 124 = .ok (.iconst 0, 1) := by decide +kernel
theorem d_Tb_tellOfGroup_125 : decode c_Tb_tellOfGroup 125 = .ok (.ireturn, 1) := by decide +kernel
theorem d_Tb_tellOfGroup_126 : decode c_Tb_tellOfGroup 126 = .ok (.aload_n 0, 1) := by decide +kernel
theorem d_Tb_tellOfGroup_127 : decode c_Tb_tellOfGroup 127 = .ok (.getfield 36, 3) := by decide +kernel
theorem d_Tb_tellOfGroup_130 : decode c_Tb_tellOfGroup 130 = .ok (.invokevirtual 413, 3) := by decide +kernel
theorem d_Tb_tellOfGroup_133 : decode c_Tb_tellOfGroup 133 = .ok (.ireturn, 1) := by decide +kernel
set_option maxHeartbeats 4000000 in
set_option maxRecDepth 100000 in
theorem m_Tb_tellOfGroup {g0 : State} {d : zD} {l : Launch} {a0 : Array Value} (hs0 : zS0 d a0 g0) (hst : l.stackTraces = false) {G : zG} {A : Nat → Nat} {D : Nat → UInt64} {V : Nat → Nat → Int32} {nk ns : Nat} (hT : zT d A D V nk ns G) {si : Nat} (hsi : si < ns) (w : Int32) : zMet g0 d l y_Tb_tellOfGroup c_Tb_tellOfGroup 3 ((Option.some Jvm.ClassFile.FieldType.int)) 13 0 0 [.ref (A 0), .ref (A (200 + si)), .int w] (G) (zI1 G) (zNo) := by
  have hG_Tb := hT.tb
  have hnk : nk ≤ 8 := hT.2.1
  have hns : ns ≤ 6 := hT.2.2.1
  refine z_entry hs0 hst (by decide) (Nat.le_of_ble_eq_true rfl) (fun p e s m args below meth c => ?_)
  refine z_iload_n 2 d_Tb_tellOfGroup_0 rfl rfl ?_
  by_cases e0 : w = 0
  · subst e0
    refine z_tableIn 36 d_Tb_tellOfGroup_1 (by decide) (by decide) rfl (by decide) ?_
    refine z_aload_n 0 d_Tb_tellOfGroup_36 rfl rfl ?_
    refine z_get zc_Tb 4 (by decide) qF_Tb_36 hG_Tb rfl d_Tb_tellOfGroup_37 ?_
    refine z_callV0 (m_Gr_size hs0 hst hT.gA) ym_Gr_size qM_Tb_210 qI_Gr_size qV_Gr_Gr_size zc_Gr hT.gr d_Tb_tellOfGroup_40 rfl (Nat.le_of_ble_eq_true rfl) ⟨Nat.zero_le _, Nat.zero_le _⟩ ⟨Nat.le_of_ble_eq_true rfl, Nat.le_of_ble_eq_true rfl⟩ ?_
    exact z_iret rfl (⟨⟨_, rfl⟩, rfl⟩) (by first | decide | omega) (by first | decide | omega) d_Tb_tellOfGroup_43
  by_cases e1 : w = 1
  · subst e1
    refine z_tableIn 44 d_Tb_tellOfGroup_1 (by decide) (by decide) rfl (by decide) ?_
    refine z_aload_n 0 d_Tb_tellOfGroup_44 rfl rfl ?_
    refine z_aload_n 1 d_Tb_tellOfGroup_45 rfl rfl ?_
    refine z_aload_n 0 d_Tb_tellOfGroup_46 rfl rfl ?_
    refine z_get zc_Tb 4 (by decide) qF_Tb_36 hG_Tb rfl d_Tb_tellOfGroup_47 ?_
    refine z_callV0 (m_Gr_members hs0 hst hT.gA) ym_Gr_members qM_Tb_200 qI_Gr_members qV_Gr_Gr_members zc_Gr hT.gr d_Tb_tellOfGroup_50 rfl (Nat.le_of_ble_eq_true rfl) ⟨Nat.zero_le _, Nat.zero_le _⟩ ⟨Nat.le_of_ble_eq_true rfl, Nat.le_of_ble_eq_true rfl⟩ ?_
    refine z_callVp0 (m_Tb_isLawful hs0 hst hT (hT.se hsi) _) ym_Tb_isLawful qM_Tb_220 qI_Tb_isLawful qV_Tb_Tb_isLawful zc_Tb hG_Tb d_Tb_tellOfGroup_53 rfl (Nat.le_of_ble_eq_true rfl) ⟨Nat.zero_le _, Nat.zero_le _⟩ ⟨Nat.le_of_ble_eq_true rfl, Nat.le_of_ble_eq_true rfl⟩ (fun r_53 G_53 hp_53 => ?_)
    obtain ⟨⟨v_53, rfl⟩, rfl⟩ := hp_53
    refine z_if_eq 63 d_Tb_tellOfGroup_56 (by decide) (fun c_56 => ?_) (fun c_56 => ?_)
    · skip
      refine z_iconst (v := 0) d_Tb_tellOfGroup_63 (by decide) ?_
      exact z_iret rfl (⟨⟨_, rfl⟩, rfl⟩) (by first | decide | omega) (by first | decide | omega) d_Tb_tellOfGroup_64
    · skip
      refine z_iconst (v := 1) d_Tb_tellOfGroup_59 (by decide) ?_
      refine z_goto 64 d_Tb_tellOfGroup_60 (by decide) ?_
      exact z_iret rfl (⟨⟨_, rfl⟩, rfl⟩) (by first | decide | omega) (by first | decide | omega) d_Tb_tellOfGroup_64
  by_cases e2 : w = 2
  · subst e2
    refine z_tableIn 65 d_Tb_tellOfGroup_1 (by decide) (by decide) rfl (by decide) ?_
    refine z_aload_n 0 d_Tb_tellOfGroup_65 rfl rfl ?_
    refine z_get zc_Tb 4 (by decide) qF_Tb_36 hG_Tb rfl d_Tb_tellOfGroup_66 ?_
    refine z_callV0 (m_Gr_isGood hs0 hst hT.gA) ym_Gr_isGood qM_Tb_191 qI_Gr_isGood qV_Gr_Gr_isGood zc_Gr hT.gr d_Tb_tellOfGroup_69 rfl (Nat.le_of_ble_eq_true rfl) ⟨Nat.zero_le _, Nat.zero_le _⟩ ⟨Nat.le_of_ble_eq_true rfl, Nat.le_of_ble_eq_true rfl⟩ ?_
    refine z_if_eq 79 d_Tb_tellOfGroup_72 (by decide) (fun c_72 => ?_) (fun c_72 => ?_)
    · skip
      refine z_iconst (v := 0) d_Tb_tellOfGroup_79 (by decide) ?_
      exact z_iret rfl (⟨⟨_, rfl⟩, rfl⟩) (by first | decide | omega) (by first | decide | omega) d_Tb_tellOfGroup_80
    · skip
      refine z_iconst (v := 1) d_Tb_tellOfGroup_75 (by decide) ?_
      refine z_goto 80 d_Tb_tellOfGroup_76 (by decide) ?_
      exact z_iret rfl (⟨⟨_, rfl⟩, rfl⟩) (by first | decide | omega) (by first | decide | omega) d_Tb_tellOfGroup_80
  by_cases e3 : w = 3
  · subst e3
    refine z_tableIn 81 d_Tb_tellOfGroup_1 (by decide) (by decide) rfl (by decide) ?_
    refine z_aload_n 0 d_Tb_tellOfGroup_81 rfl rfl ?_
    refine z_get zc_Tb 4 (by decide) qF_Tb_36 hG_Tb rfl d_Tb_tellOfGroup_82 ?_
    refine z_callV0 (m_Gr_isGood hs0 hst hT.gA) ym_Gr_isGood qM_Tb_191 qI_Gr_isGood qV_Gr_Gr_isGood zc_Gr hT.gr d_Tb_tellOfGroup_85 rfl (Nat.le_of_ble_eq_true rfl) ⟨Nat.zero_le _, Nat.zero_le _⟩ ⟨Nat.le_of_ble_eq_true rfl, Nat.le_of_ble_eq_true rfl⟩ ?_
    refine z_if_eq 102 d_Tb_tellOfGroup_88 (by decide) (fun c_88 => ?_) (fun c_88 => ?_)
    · skip
      refine z_iconst (v := (-1)) d_Tb_tellOfGroup_102 (by decide) ?_
      exact z_iret rfl (⟨⟨_, rfl⟩, rfl⟩) (by first | decide | omega) (by first | decide | omega) d_Tb_tellOfGroup_103
    · skip
      refine z_aload_n 0 d_Tb_tellOfGroup_91 rfl rfl ?_
      refine z_get zc_Tb 4 (by decide) qF_Tb_36 hG_Tb rfl d_Tb_tellOfGroup_92 ?_
      refine z_iconst (v := 0) d_Tb_tellOfGroup_95 (by decide) ?_
      refine z_callV0 (m_Gr_curveAt hs0 hst hT.gA _) ym_Gr_curveAt qM_Tb_197 qI_Gr_curveAt qV_Gr_Gr_curveAt zc_Gr hT.gr d_Tb_tellOfGroup_96 rfl (Nat.le_of_ble_eq_true rfl) ⟨Nat.zero_le _, Nat.zero_le _⟩ ⟨Nat.le_of_ble_eq_true rfl, Nat.le_of_ble_eq_true rfl⟩ ?_
      refine z_goto 103 d_Tb_tellOfGroup_99 (by decide) ?_
      exact z_iret rfl (⟨⟨_, rfl⟩, rfl⟩) (by first | decide | omega) (by first | decide | omega) d_Tb_tellOfGroup_103
  by_cases e4 : w = 4
  · subst e4
    refine z_tableIn 104 d_Tb_tellOfGroup_1 (by decide) (by decide) rfl (by decide) ?_
    refine z_aload_n 0 d_Tb_tellOfGroup_104 rfl rfl ?_
    refine z_get zc_Tb 4 (by decide) qF_Tb_36 hG_Tb rfl d_Tb_tellOfGroup_105 ?_
    refine z_callV0 (m_Gr_isGood hs0 hst hT.gA) ym_Gr_isGood qM_Tb_191 qI_Gr_isGood qV_Gr_Gr_isGood zc_Gr hT.gr d_Tb_tellOfGroup_108 rfl (Nat.le_of_ble_eq_true rfl) ⟨Nat.zero_le _, Nat.zero_le _⟩ ⟨Nat.le_of_ble_eq_true rfl, Nat.le_of_ble_eq_true rfl⟩ ?_
    refine z_if_eq 124 d_Tb_tellOfGroup_111 (by decide) (fun c_111 => ?_) (fun c_111 => ?_)
    · skip
      refine z_iconst (v := 0) d_Tb_tellOfGroup_124 (by decide) ?_
      exact z_iret rfl (⟨⟨_, rfl⟩, rfl⟩) (by first | decide | omega) (by first | decide | omega) d_Tb_tellOfGroup_125
    · skip
      refine z_aload_n 0 d_Tb_tellOfGroup_114 rfl rfl ?_
      refine z_get zc_Tb 4 (by decide) qF_Tb_36 hG_Tb rfl d_Tb_tellOfGroup_115 ?_
      refine z_callV0 (m_Gr_liars hs0 hst hT.gA) ym_Gr_liars qM_Tb_224 qI_Gr_liars qV_Gr_Gr_liars zc_Gr hT.gr d_Tb_tellOfGroup_118 rfl (Nat.le_of_ble_eq_true rfl) ⟨Nat.zero_le _, Nat.zero_le _⟩ ⟨Nat.le_of_ble_eq_true rfl, Nat.le_of_ble_eq_true rfl⟩ ?_
      refine z_goto 125 d_Tb_tellOfGroup_121 (by decide) ?_
      exact z_iret rfl (⟨⟨_, rfl⟩, rfl⟩) (by first | decide | omega) (by first | decide | omega) d_Tb_tellOfGroup_125
  have ed : w.toInt < 0 ∨ 4 < w.toInt := by
    simp only [← Int32.toInt_inj, Int32.reduceToInt] at e0 e1 e2 e3 e4
    omega
  · skip
    refine z_tableOut 126 d_Tb_tellOfGroup_1 (ed) (by decide) ?_
    refine z_aload_n 0 d_Tb_tellOfGroup_126 rfl rfl ?_
    refine z_get zc_Tb 4 (by decide) qF_Tb_36 hG_Tb rfl d_Tb_tellOfGroup_127 ?_
    refine z_callV0 (m_Gr_agreed hs0 hst hT.gA) ym_Gr_agreed qM_Tb_413 qI_Gr_agreed qV_Gr_Gr_agreed zc_Gr hT.gr d_Tb_tellOfGroup_130 rfl (Nat.le_of_ble_eq_true rfl) ⟨Nat.zero_le _, Nat.zero_le _⟩ ⟨Nat.le_of_ble_eq_true rfl, Nat.le_of_ble_eq_true rfl⟩ ?_
    exact z_iret rfl (⟨⟨_, rfl⟩, rfl⟩) (by first | decide | omega) (by first | decide | omega) d_Tb_tellOfGroup_133
