theorem d_Mo_lostNow_0 : decode c_Mo_lostNow 0 = .ok (.aload_n 0, 1) := by decide +kernel
theorem d_Mo_lostNow_1 : decode c_Mo_lostNow 1 = .ok (.getfield 20, 3) := by decide +kernel
theorem d_Mo_lostNow_4 : decode c_Mo_lostNow 4 = .ok (.iload_n 1, 1) := by decide +kernel
theorem d_Mo_lostNow_5 : decode c_Mo_lostNow 5 = .ok (.invokeinterface 51 2, 5) := by decide +kernel
theorem d_Mo_lostNow_10 : decode c_Mo_lostNow 10 = .ok (.checkcast 47, 3) := by decide +kernel
theorem d_Mo_lostNow_13 : decode c_Mo_lostNow 13 = .ok (.astore_n 2, 1) := by decide +kernel
theorem d_Mo_lostNow_14 : decode c_Mo_lostNow 14 = .ok (.bipush 9, 2) := by decide +kernel
theorem d_Mo_lostNow_16 : decode c_Mo_lostNow 16 = .ok (.newarray .double, 2) := by decide +kernel
theorem d_Mo_lostNow_18 : decode c_Mo_lostNow 18 = .ok (.astore_n 3, 1) := by decide +kernel
theorem d_Mo_lostNow_19 : decode c_Mo_lostNow 19 = .ok (.aload_n 3, 1) := by decide +kernel
theorem d_Mo_lostNow_20 : decode c_Mo_lostNow 20 = .ok (.iconst 0, 1) := by decide +kernel
theorem d_Mo_lostNow_21 : decode c_Mo_lostNow 21 = .ok (.dconst 1, 1) := by decide +kernel
theorem d_Mo_lostNow_22 : decode c_Mo_lostNow 22 = .ok (.dastore, 1) := by decide +kernel
theorem d_Mo_lostNow_23 : decode c_Mo_lostNow 23 = .ok (.iconst 0, 1) := by decide +kernel
theorem d_Mo_lostNow_24 : decode c_Mo_lostNow 24 = .ok (.istore 4, 2) := by decide +kernel
theorem d_Mo_lostNow_26 : decode c_Mo_lostNow 26 = .ok (.iload 4, 2) := by decide +kernel
theorem d_Mo_lostNow_28 : decode c_Mo_lostNow 28 = .ok (.aload_n 0, 1) := by decide +kernel
theorem d_Mo_lostNow_29 : decode c_Mo_lostNow 29 = .ok (.getfield 16, 3) := by decide +kernel
theorem d_Mo_lostNow_32 : decode c_Mo_lostNow 32 = .ok (.invokeinterface 94 1, 5) := by decide +kernel
theorem d_Mo_lostNow_37 : decode c_Mo_lostNow 37 = .ok (.if_icmp .ge 103, 3) := by decide +kernel
theorem d_Mo_lostNow_40 : decode c_Mo_lostNow 40 = .ok (.aload_n 2, 1) := by decide +kernel
theorem d_Mo_lostNow_41 : decode c_Mo_lostNow 41 = .ok (.iload 4, 2) := by decide +kernel
theorem d_Mo_lostNow_43 : decode c_Mo_lostNow 43 = .ok (.invokevirtual 159, 3) := by decide +kernel
theorem d_Mo_lostNow_46 : decode c_Mo_lostNow 46 = .ok (.ifCond .ne 6, 3) := by decide +kernel
theorem d_Mo_lostNow_49 : decode c_Mo_lostNow 49 = .ok (.goto 85, 3) := by decide +kernel
theorem d_Mo_lostNow_52 : decode c_Mo_lostNow 52 = .ok (.aload_n 0, 1) := by decide +kernel
theorem d_Mo_lostNow_53 : decode c_Mo_lostNow 53 = .ok (.getfield 16, 3) := by decide +kernel
theorem d_Mo_lostNow_56 : decode c_Mo_lostNow 56 = .ok (.iload 4, 2) := by decide +kernel
theorem d_Mo_lostNow_58 : decode c_Mo_lostNow 58 = .ok (.invokeinterface 51 2, 5) := by decide +kernel
theorem d_Mo_lostNow_63 : decode c_Mo_lostNow 63 = .ok (.checkcast 57, 3) := by decide +kernel
theorem d_Mo_lostNow_66 : decode c_Mo_lostNow 66 = .ok (.getfield 196, 3) := by decide +kernel
theorem d_Mo_lostNow_69 : decode c_Mo_lostNow 69 = .ok (.istore 5, 2) := by decide +kernel
theorem d_Mo_lostNow_71 : decode c_Mo_lostNow 71 = .ok (.bipush 8, 2) := by decide +kernel
theorem d_Mo_lostNow_73 : decode c_Mo_lostNow 73 = .ok (.istore 6, 2) := by decide +kernel
theorem d_Mo_lostNow_75 : decode c_Mo_lostNow 75 = .ok (.iload 6, 2) := by decide +kernel
theorem d_Mo_lostNow_77 : decode c_Mo_lostNow 77 = .ok (.ifCond .le 43, 3) := by decide +kernel
theorem d_Mo_lostNow_80 : decode c_Mo_lostNow 80 = .ok (.aload_n 3, 1) := by decide +kernel
theorem d_Mo_lostNow_81 : decode c_Mo_lostNow 81 = .ok (.iload 6, 2) := by decide +kernel
theorem d_Mo_lostNow_83 : decode c_Mo_lostNow 83 = .ok (.aload_n 3, 1) := by decide +kernel
theorem d_Mo_lostNow_84 : decode c_Mo_lostNow 84 = .ok (.iload 6, 2) := by decide +kernel
theorem d_Mo_lostNow_86 : decode c_Mo_lostNow 86 = .ok (.daload, 1) := by decide +kernel
theorem d_Mo_lostNow_87 : decode c_Mo_lostNow 87 = .ok (.iload 5, 2) := by decide +kernel
theorem d_Mo_lostNow_89 : decode c_Mo_lostNow 89 = .ok (.i2d, 1) := by decide +kernel
theorem d_Mo_lostNow_90 : decode c_Mo_lostNow 90 = .ok (.dmul, 1) := by decide +kernel
theorem d_Mo_lostNow_91 : decode c_Mo_lostNow 91 = .ok (.ldc2_w 250, 3) := by decide +kernel
theorem d_Mo_lostNow_94 : decode c_Mo_lostNow 94 = .ok (.ddiv, 1) := by decide +kernel
theorem d_Mo_lostNow_95 : decode c_Mo_lostNow 95 = .ok (.aload_n 3, 1) := by decide +kernel
theorem d_Mo_lostNow_96 : decode c_Mo_lostNow 96 = .ok (.iload 6, 2) := by decide +kernel
theorem d_Mo_lostNow_98 : decode c_Mo_lostNow 98 = .ok (.iconst 1, 1) := by decide +kernel
theorem d_Mo_lostNow_99 : decode c_Mo_lostNow 99 = .ok (.isub, 1) := by decide +kernel
theorem d_Mo_lostNow_100 : decode c_Mo_lostNow 100 = .ok (.daload, 1) := by decide +kernel
theorem d_Mo_lostNow_101 : decode c_Mo_lostNow 101 = .ok (.bipush 100, 2) := by decide +kernel
theorem d_Mo_lostNow_103 : decode c_Mo_lostNow 103 = .ok (.iload 5, 2) := by decide +kernel
theorem d_Mo_lostNow_105 : decode c_Mo_lostNow 105 = .ok (.isub, 1) := by decide +kernel
theorem d_Mo_lostNow_106 : decode c_Mo_lostNow 106 = .ok (.i2d, 1) := by decide +kernel
theorem d_Mo_lostNow_107 : decode c_Mo_lostNow 107 = .ok (.dmul, 1) := by decide +kernel
theorem d_Mo_lostNow_108 : decode c_Mo_lostNow 108 = .ok (.ldc2_w 250, 3) := by decide +kernel
theorem d_Mo_lostNow_111 : decode c_Mo_lostNow 111 = .ok (.ddiv, 1) := by decide +kernel
theorem d_Mo_lostNow_112 : decode c_Mo_lostNow 112 = .ok (.dadd, 1) := by decide +kernel
theorem d_Mo_lostNow_113 : decode c_Mo_lostNow 113 = .ok (.dastore, 1) := by decide +kernel
theorem d_Mo_lostNow_114 : decode c_Mo_lostNow 114 = .ok (.iinc 6 (-1), 3) := by decide +kernel
theorem d_Mo_lostNow_117 : decode c_Mo_lostNow 117 = .ok (.goto (-42), 3) := by decide +kernel
theorem d_Mo_lostNow_120 : decode c_Mo_lostNow 120 = .ok (.aload_n 3, 1) := by decide +kernel
theorem d_Mo_lostNow_121 : decode c_Mo_lostNow 121 = .ok (.iconst 0, 1) := by decide +kernel
theorem d_Mo_lostNow_122 : decode c_Mo_lostNow 122 = .ok (.aload_n 3, 1) := by decide +kernel
theorem d_Mo_lostNow_123 : decode c_Mo_lostNow 123 = .ok (.iconst 0, 1) := by decide +kernel
theorem d_Mo_lostNow_124 : decode c_Mo_lostNow 124 = .ok (.daload, 1) := by decide +kernel
theorem d_Mo_lostNow_125 : decode c_Mo_lostNow 125 = .ok (.iload 5, 2) := by decide +kernel
theorem d_Mo_lostNow_127 : decode c_Mo_lostNow 127 = .ok (.i2d, 1) := by decide +kernel
theorem d_Mo_lostNow_128 : decode c_Mo_lostNow 128 = .ok (.dmul, 1) := by decide +kernel
theorem d_Mo_lostNow_129 : decode c_Mo_lostNow 129 = .ok (.ldc2_w 250, 3) := by decide +kernel
theorem d_Mo_lostNow_132 : decode c_Mo_lostNow 132 = .ok (.ddiv, 1) := by decide +kernel
theorem d_Mo_lostNow_133 : decode c_Mo_lostNow 133 = .ok (.dastore, 1) := by decide +kernel
theorem d_Mo_lostNow_134 : decode c_Mo_lostNow 134 = .ok (.iinc 4 1, 3) := by decide +kernel
theorem d_Mo_lostNow_137 : decode c_Mo_lostNow 137 = .ok (.goto (-111), 3) := by decide +kernel
theorem d_Mo_lostNow_140 : decode c_Mo_lostNow 140 = .ok (.dconst 0, 1) := by decide +kernel
theorem d_Mo_lostNow_141 : decode c_Mo_lostNow 141 = .ok (.dstore 4, 2) := by decide +kernel
theorem d_Mo_lostNow_143 : decode c_Mo_lostNow 143 = .ok (.iconst 0, 1) := by decide +kernel
theorem d_Mo_lostNow_144 : decode c_Mo_lostNow 144 = .ok (.istore 6, 2) := by decide +kernel
theorem d_Mo_lostNow_146 : decode c_Mo_lostNow 146 = .ok (.iload 6, 2) := by decide +kernel
theorem d_Mo_lostNow_148 : decode c_Mo_lostNow 148 = .ok (.aload_n 2, 1) := by decide +kernel
theorem d_Mo_lostNow_149 : decode c_Mo_lostNow 149 = .ok (.getfield 69, 3) := by decide +kernel
theorem d_Mo_lostNow_152 : decode c_Mo_lostNow 152 = .ok (.if_icmp .ge 18, 3) := by decide +kernel
theorem d_Mo_lostNow_155 : decode c_Mo_lostNow 155 = .ok (.dload 4, 2) := by decide +kernel
theorem d_Mo_lostNow_157 : decode c_Mo_lostNow 157 = .ok (.aload_n 3, 1) := by decide +kernel
theorem d_Mo_lostNow_158 : decode c_Mo_lostNow 158 = .ok (.iload 6, 2) := by decide +kernel
theorem d_Mo_lostNow_160 : decode c_Mo_lostNow 160 = .ok (.daload, 1) := by decide +kernel
theorem d_Mo_lostNow_161 : decode c_Mo_lostNow 161 = .ok (.dadd, 1) := by decide +kernel
theorem d_Mo_lostNow_162 : decode c_Mo_lostNow 162 = .ok (.dstore 4, 2) := by decide +kernel
theorem d_Mo_lostNow_164 : decode c_Mo_lostNow 164 = .ok (.iinc 6 1, 3) := by decide +kernel
theorem d_Mo_lostNow_167 : decode c_Mo_lostNow 167 = .ok (.goto (-21), 3) := by decide +kernel
theorem d_Mo_lostNow_170 : decode c_Mo_lostNow 170 = .ok (.dload 4, 2) := by decide +kernel
theorem d_Mo_lostNow_172 : decode c_Mo_lostNow 172 = .ok (.dreturn, 1) := by decide +kernel
set_option maxHeartbeats 4000000 in
set_option maxRecDepth 100000 in
theorem m_Mo_lostNow {g0 : State} {d : zD} {l : Launch} {a0 : Array Value} (hs0 : zS0 d a0 g0) (hst : l.stackTraces = false) {G : zG} {B : Nat → Nat} {V : Nat → Nat → Int32} {nk ns ne ec : Nat} (hM : zM d B V nk ns ne ec G) {si : Nat} (hsi : si < ns) : zMet g0 d l y_Mo_lostNow c_Mo_lostNow 7 ((Option.some Jvm.ClassFile.FieldType.double)) 11 1 9 [.ref (B 0), .int (nI si)] (G) (mTs d B nk ns ne ec V G zrD) (zNo) := by
  have hnk : nk ≤ 8 := hM.2.1
  have hns : ns ≤ 6 := hM.2.2.1
  have hne : ne ≤ 64 := hM.2.2.2.1
  have hp2 : 2 ^ nk ≤ 256 := Nat.pow_le_pow_right (n := 2) (by decide) hnk
  obtain ⟨t, ht1, ht4, ht⟩ := hM.tn hsi
  refine z_entry hs0 hst (by decide) (Nat.le_of_ble_eq_true rfl) (fun p e s m args below meth c => ?_)
  refine z_aload_n 0 d_Mo_lostNow_0 rfl rfl ?_
  refine z_get zc_Mo 7 (by decide) qF_Mo_20 hM.mo rfl d_Mo_lostNow_1 ?_
  refine z_iload_n 1 d_Mo_lostNow_4 rfl rfl ?_
  refine z_callF0 (m_AL_get hs0 hst (hM.sA hsi) hsi (if_pos hsi)) ym_AL_get zF_AL_get qM_Mo_51 zc_AL (hM.sA hsi).1 d_Mo_lostNow_5 rfl (Nat.le_of_ble_eq_true rfl) ⟨by decide, by decide⟩ ⟨Nat.le_of_ble_eq_true rfl, Nat.le_of_ble_eq_true rfl⟩ ?_
  refine z_castS zc_MS qK_Mo_47 (hM.se hsi).1 d_Mo_lostNow_10 ?_
  refine z_astore_n (L' := [(2, _), (0, _), (1, _)]) d_Mo_lostNow_13 rfl (by decide) rfl ?_
  refine z_bipush (v := 9) d_Mo_lostNow_14 (by decide) ?_
  refine z_newaD 9 qA_double (by decide) rfl (by decide) ⟨by decide, by decide⟩ d_Mo_lostNow_16 (fun a ha hab => ?_)
  have hMo : ∀ w, zM d B V nk ns ne ec (zu G a w) := fun w => hM.out (hM.nn_ ha)
  refine z_astore_n (L' := [(3, _), (2, _), (0, _), (1, _)]) d_Mo_lostNow_18 rfl (by decide) rfl ?_
  refine z_aload_n 0 d_Mo_lostNow_19 rfl rfl ?_
  refine z_iconst (v := (nI 0)) d_Mo_lostNow_20 (by decide) ?_
  refine z_dconst1 d_Mo_lostNow_21 ?_
  refine z_dastN zu_s (show 0 < 9 by decide) (by decide) d_Mo_lostNow_22 ?_
  refine z_one ?_
  refine z_iconst (v := (nI 0)) d_Mo_lostNow_23 (by decide) ?_
  refine z_istore (L' := [(4, _), (3, _), (2, _), (0, _), (1, _)]) d_Mo_lostNow_24 (by decide) rfl ?_
  have key_26 : ∀ (n : Nat) (i : Nat) (D2 : Nat → UInt64), nk - i < n → (i ≤ nk) → (∀ j, j < 9 → zmg (D2 j) (1024 + 35 * i)) → Z g0 d y_Mo_lostNow c_Mo_lostNow 7 ((Option.some Jvm.ClassFile.FieldType.double)) [] p l e (zR 11 1 9) s m args below meth c (vx_MQ below (zQc g0 d (mTs d B nk ns ne ec V G zrD)) (zXc g0 d (zNo)) args s 1 9 (zA g0)) 1 9 (zu G a (zDb d 9 D2)) [(4, .int (nI i)), (3, .ref a), (2, .ref (B (200 + si))), (0, .ref (B 0)), (1, .int (nI si))] [] 26 := by
    intro n
    induction n with
    | zero => intro i D2 h0; exact absurd h0 (Nat.not_lt_zero _)
    | succ n ih_26 =>
      intro i D2 hm_26 hi hm2
      refine z_iload 0 d_Mo_lostNow_26 rfl ?_
      refine z_aload_n 3 d_Mo_lostNow_28 rfl rfl ?_
      refine z_get zc_Mo 6 (by decide) qF_Mo_16 (hMo _).mo rfl d_Mo_lostNow_29 ?_
      refine z_callF0 (m_AL_size hs0 hst (hMo _).kl) ym_AL_size zF_AL_size qM_Mo_94 zc_AL (hMo _).kl d_Mo_lostNow_32 rfl (Nat.le_of_ble_eq_true rfl) ⟨by decide, by decide⟩ ⟨Nat.le_of_ble_eq_true rfl, Nat.le_of_ble_eq_true rfl⟩ ?_
      refine z_icmp_ge 140 d_Mo_lostNow_37 (by decide) (fun c_37 => ?_) (fun c_37 => ?_)
      · skip
        have hm5 : ∀ j, j < 9 → zmg (D2 j) 1304 := fun j hj => (hm2 j hj).mono (by omega)
        refine z_dconst0 d_Mo_lostNow_140 ?_
        refine z_dstore (L' := [(4, _), (3, _), (2, _), (0, _), (1, _)]) d_Mo_lostNow_141 (by decide) rfl ?_
        refine z_iconst (v := (nI 0)) d_Mo_lostNow_143 (by decide) ?_
        refine z_istore (L' := [(6, _), (4, _), (3, _), (2, _), (0, _), (1, _)]) d_Mo_lostNow_144 (by decide) rfl ?_
        have key_146 : ∀ (n : Nat) (i : Nat) (v : UInt64), t - i < n → (i ≤ t) → (zmg v (1304 + 2 * i)) → Z g0 d y_Mo_lostNow c_Mo_lostNow 7 ((Option.some Jvm.ClassFile.FieldType.double)) [] p l e (zR 11 1 9) s m args below meth c (vx_MQ below (zQc g0 d (mTs d B nk ns ne ec V G zrD)) (zXc g0 d (zNo)) args s 1 9 (zA g0)) 1 9 (zu G a (zDb d 9 D2)) [(6, .int (nI i)), (4, .double v), (3, .ref a), (2, .ref (B (200 + si))), (0, .ref (B 0)), (1, .int (nI si))] [] 146 := by
          intro n
          induction n with
          | zero => intro i v h0; exact absurd h0 (Nat.not_lt_zero _)
          | succ n ih_146 =>
            intro i v hm_146 hi hv
            refine z_iload 0 d_Mo_lostNow_146 rfl ?_
            refine z_aload_n 3 d_Mo_lostNow_148 rfl rfl ?_
            refine z_get zc_MS 0 (by decide) qF_Mo_69 ((hMo _).se hsi).1 rfl d_Mo_lostNow_149 ?_
            rw [ht]
            refine z_icmp_ge 170 d_Mo_lostNow_152 (by decide) (fun c_152 => ?_) (fun c_152 => ?_)
            · skip
              refine z_dload 1 d_Mo_lostNow_170 rfl ?_
              exact z_dret rfl (⟨⟨v, rfl, hv.mono (by omega)⟩, V, hMo _, zKp.rf, zFr.new ha⟩) (by first | decide | omega) (by first | decide | omega) d_Mo_lostNow_172
            · skip
              have hi6 : i < t := Nat.lt_of_not_le fun q => c_152 (nI_le q (by omega))
              refine z_dload 1 d_Mo_lostNow_155 rfl ?_
              refine z_aload_n 2 d_Mo_lostNow_157 rfl rfl ?_
              refine z_iload 0 d_Mo_lostNow_158 rfl ?_
              refine z_daldN zu_s (show i < 9 by omega) (by decide) d_Mo_lostNow_160 ?_
              refine z_dadd d_Mo_lostNow_161 ((zmg_a hv ((hm5 i (by omega)).mono (by omega)) (by omega)).nn (by omega)) ?_
              refine z_dstore (L' := [(4, _), (6, _), (3, _), (2, _), (0, _), (1, _)]) d_Mo_lostNow_162 (by decide) rfl ?_
              refine z_iinc (v := nI (i + 1)) (L' := [(6, _), (4, _), (3, _), (2, _), (0, _), (1, _)]) 1 d_Mo_lostNow_164 rfl (nI_1 i) (by decide) rfl ?_
              refine z_goto 146 d_Mo_lostNow_167 (by decide) ?_
              exact ih_146 (i + 1) _ (by omega) (by omega) ((zmg_a hv ((hm5 i (by omega)).mono (by omega)) (by omega)).mono (by omega))
        exact key_146 (t + 1) 0 _ (by omega) (by omega) (zmg_0.mono (by omega))
      · skip
        have hi6 : i < nk := Nat.lt_of_not_le fun q => c_37 (nI_le q (by omega))
        refine z_aload_n 2 d_Mo_lostNow_40 rfl rfl ?_
        refine z_iload 0 d_Mo_lostNow_41 rfl ?_
        refine z_callV0 (m_MS_isGood hs0 hst ((hMo _).se hsi) (show i < 8 by omega)) ym_MS_isGood qM_Mo_159 qI_MS_isGood qV_MS_MS_isGood zc_MS ((hMo _).se hsi).1 d_Mo_lostNow_43 rfl (Nat.le_of_ble_eq_true rfl) ⟨by decide, by decide⟩ ⟨Nat.le_of_ble_eq_true rfl, Nat.le_of_ble_eq_true rfl⟩ ?_
        refine z_if_ne 52 d_Mo_lostNow_46 (by decide) (fun c_46 => ?_) (fun c_46 => ?_)
        · skip
          refine z_aload_n 3 d_Mo_lostNow_52 rfl rfl ?_
          refine z_get zc_Mo 6 (by decide) qF_Mo_16 (hMo _).mo rfl d_Mo_lostNow_53 ?_
          refine z_iload 0 d_Mo_lostNow_56 rfl ?_
          refine z_callF0 (m_AL_get hs0 hst ((hMo _).kA hi6) hi6 (if_pos hi6)) ym_AL_get zF_AL_get qM_Mo_51 zc_AL ((hMo _).kA hi6).1 d_Mo_lostNow_58 rfl (Nat.le_of_ble_eq_true rfl) ⟨by decide, by decide⟩ ⟨Nat.le_of_ble_eq_true rfl, Nat.le_of_ble_eq_true rfl⟩ ?_
          refine z_castS zc_MK qK_Mo_57 ((hMo _).ke hi6) d_Mo_lostNow_63 ?_
          refine z_get zc_MK 2 (by decide) qF_Mo_196 ((hMo _).ke hi6) rfl d_Mo_lostNow_66 ?_
          refine z_istore (L' := [(5, _), (4, _), (3, _), (2, _), (0, _), (1, _)]) d_Mo_lostNow_69 (by decide) rfl ?_
          refine z_bipush (v := (nI 8)) d_Mo_lostNow_71 (by decide) ?_
          refine z_istore (L' := [(6, _), (5, _), (4, _), (3, _), (2, _), (0, _), (1, _)]) d_Mo_lostNow_73 (by decide) rfl ?_
          have key_75 : ∀ (n : Nat) (k : Nat) (D3 : Nat → UInt64), k < n → (k ≤ 8) → (∀ j, j < 9 → zmg (D3 j) (1024 + 35 * i + 35)) → (∀ j, j ≤ k → zmg (D3 j) (1024 + 35 * i)) → Z g0 d y_Mo_lostNow c_Mo_lostNow 7 ((Option.some Jvm.ClassFile.FieldType.double)) [] p l e (zR 11 1 9) s m args below meth c (vx_MQ below (zQc g0 d (mTs d B nk ns ne ec V G zrD)) (zXc g0 d (zNo)) args s 1 9 (zA g0)) 1 9 (zu G a (zDb d 9 D3)) [(6, .int (nI k)), (5, .int (V (100 + i) 2)), (4, .int (nI i)), (3, .ref a), (2, .ref (B (200 + si))), (0, .ref (B 0)), (1, .int (nI si))] [] 75 := by
            intro n
            induction n with
            | zero => intro k D3 h0; exact absurd h0 (Nat.not_lt_zero _)
            | succ n ih_75 =>
              intro k D3 hm_75 hk hm3 hm4
              refine z_iload 0 d_Mo_lostNow_75 rfl ?_
              refine z_if_le 120 d_Mo_lostNow_77 (by decide) (fun c_77 => ?_) (fun c_77 => ?_)
              · skip
                have m0 := zmg_m (hm4 0 (by omega)) (zmg_i (V (100 + i) 2)) (by omega) (by omega)
                have v0 := zmg_d m0 (by omega) (by omega)
                refine z_aload_n 3 d_Mo_lostNow_120 rfl rfl ?_
                refine z_iconst (v := (nI 0)) d_Mo_lostNow_121 (by decide) ?_
                refine z_aload_n 3 d_Mo_lostNow_122 rfl rfl ?_
                refine z_iconst (v := (nI 0)) d_Mo_lostNow_123 (by decide) ?_
                refine z_daldN zu_s (show 0 < 9 by decide) (by decide) d_Mo_lostNow_124 ?_
                refine z_iload 1 d_Mo_lostNow_125 rfl ?_
                refine z_i2d d_Mo_lostNow_127 ?_
                refine z_dmul d_Mo_lostNow_128 (m0.nn (by omega)) ?_
                refine z_ldc2d qXd_Mo_250 d_Mo_lostNow_129 ?_
                refine z_ddiv d_Mo_lostNow_132 (v0.nn (by omega)) ?_
                refine z_dastN zu_s (show 0 < 9 by decide) (by decide) d_Mo_lostNow_133 ?_
                refine z_one ?_
                refine z_iinc (v := nI (i + 1)) (L' := [(4, _), (6, _), (5, _), (3, _), (2, _), (0, _), (1, _)]) 2 d_Mo_lostNow_134 rfl (nI_1 i) (by decide) rfl ?_
                refine z_goto 26 d_Mo_lostNow_137 (by decide) ?_
                refine z_sub (L' := [(4, _), (3, _), (2, _), (0, _), (1, _)]) [0, 3, 4, 5, 6] rfl ?_
                first
                  | exact ih_26 (i + 1) _ (by omega) (by omega) (fun j hj => (hm2 j hj).mono (by omega))
                  | exact ih_26 (i + 1) _ (by omega) (by omega) (fun j hj => by
                      by_cases ej : j = 0
                      · subst ej; rw [vu_s]; exact v0.mono (by omega)
                      · rw [vu_n ej]; exact (hm3 j hj).mono (by omega))
              · skip
                have hk1 : 1 ≤ k := Nat.pos_of_ne_zero fun e => c_77 (by subst e; decide)
                have m1 := zmg_m (hm4 k (by omega)) (zmg_i (V (100 + i) 2)) (by omega) (by omega)
                have v1 := zmg_d m1 (by omega) (by omega)
                have m2 := zmg_m (hm4 (k - 1) (by omega)) (zmg_i (100 - V (100 + i) 2)) (by omega) (by omega)
                have v2 := zmg_d m2 (by omega) (by omega)
                have ms9 := zmg_a v1 v2 (by omega)
                refine z_aload_n 3 d_Mo_lostNow_80 rfl rfl ?_
                refine z_iload 0 d_Mo_lostNow_81 rfl ?_
                refine z_aload_n 3 d_Mo_lostNow_83 rfl rfl ?_
                refine z_iload 0 d_Mo_lostNow_84 rfl ?_
                refine z_daldN zu_s (show k < 9 by omega) (by decide) d_Mo_lostNow_86 ?_
                refine z_iload 1 d_Mo_lostNow_87 rfl ?_
                refine z_i2d d_Mo_lostNow_89 ?_
                refine z_dmul d_Mo_lostNow_90 (m1.nn (by omega)) ?_
                refine z_ldc2d qXd_Mo_250 d_Mo_lostNow_91 ?_
                refine z_ddiv d_Mo_lostNow_94 (v1.nn (by omega)) ?_
                refine z_aload_n 3 d_Mo_lostNow_95 rfl rfl ?_
                refine z_iload 0 d_Mo_lostNow_96 rfl ?_
                refine z_iconst (v := 1) d_Mo_lostNow_98 (by decide) ?_
                refine z_isub d_Mo_lostNow_99 ?_
                refine z_topv (nI_s1 hk1 (by omega)) ?_
                refine z_daldN zu_s (show k - 1 < 9 by omega) (by decide) d_Mo_lostNow_100 ?_
                refine z_bipush (v := 100) d_Mo_lostNow_101 (by decide) ?_
                refine z_iload 1 d_Mo_lostNow_103 rfl ?_
                refine z_isub d_Mo_lostNow_105 ?_
                refine z_i2d d_Mo_lostNow_106 ?_
                refine z_dmul d_Mo_lostNow_107 (m2.nn (by omega)) ?_
                refine z_ldc2d qXd_Mo_250 d_Mo_lostNow_108 ?_
                refine z_ddiv d_Mo_lostNow_111 (v2.nn (by omega)) ?_
                refine z_dadd d_Mo_lostNow_112 (ms9.nn (by omega)) ?_
                refine z_dastN zu_s (show k < 9 by omega) (by decide) d_Mo_lostNow_113 ?_
                refine z_one ?_
                refine z_iinc (v := nI (k - 1)) (L' := [(6, _), (5, _), (4, _), (3, _), (2, _), (0, _), (1, _)]) 0 d_Mo_lostNow_114 rfl ((z_m1 _).trans (nI_s1 hk1 (by omega))) (by decide) rfl ?_
                refine z_goto 75 d_Mo_lostNow_117 (by decide) ?_
                refine ih_75 (k - 1) _ (by omega) (by omega) (fun j hj => ?_) (fun j hj => ?_)
                · by_cases ej : j = k
                  · subst ej; rw [vu_s]; exact ms9
                  · rw [vu_n ej]; exact hm3 j hj
                · rw [vu_n (by omega)]; exact hm4 j (by omega)
          exact key_75 9 8 _ (by omega) (by omega) (fun j hj => (hm2 j hj).mono (by omega)) (fun j hj => hm2 j (by omega))
        · skip
          refine z_goto 134 d_Mo_lostNow_49 (by decide) ?_
          refine z_iinc (v := nI (i + 1)) (L' := [(4, _), (3, _), (2, _), (0, _), (1, _)]) 0 d_Mo_lostNow_134 rfl (nI_1 i) (by decide) rfl ?_
          refine z_goto 26 d_Mo_lostNow_137 (by decide) ?_
          first
            | exact ih_26 (i + 1) _ (by omega) (by omega) (fun j hj => (hm2 j hj).mono (by omega))
            | exact ih_26 (i + 1) _ (by omega) (by omega) (fun j hj => by
                by_cases ej : j = 0
                · subst ej; rw [vu_s]; exact v0.mono (by omega)
                · rw [vu_n ej]; exact (hm3 j hj).mono (by omega))
  exact key_26 (nk + 1) 0 _ (by omega) (by omega) (fun j hj => by
      by_cases ej : j = 0
      · subst ej; rw [vu_s]; exact zmg_1
      · rw [vu_n ej]; exact zmg_0)
theorem d_Mo_fewestNow_0 : decode c_Mo_fewestNow 0 = .ok (.aload_n 0, 1) := by decide +kernel
theorem d_Mo_fewestNow_1 : decode c_Mo_fewestNow 1 = .ok (.getfield 20, 3) := by decide +kernel
theorem d_Mo_fewestNow_4 : decode c_Mo_fewestNow 4 = .ok (.iload_n 1, 1) := by decide +kernel
theorem d_Mo_fewestNow_5 : decode c_Mo_fewestNow 5 = .ok (.invokeinterface 51 2, 5) := by decide +kernel
theorem d_Mo_fewestNow_10 : decode c_Mo_fewestNow 10 = .ok (.checkcast 47, 3) := by decide +kernel
theorem d_Mo_fewestNow_13 : decode c_Mo_fewestNow 13 = .ok (.astore_n 2, 1) := by decide +kernel
theorem d_Mo_fewestNow_14 : decode c_Mo_fewestNow 14 = .ok (.iconst 0, 1) := by decide +kernel
theorem d_Mo_fewestNow_15 : decode c_Mo_fewestNow 15 = .ok (.istore_n 3, 1) := by decide +kernel
theorem d_Mo_fewestNow_16 : decode c_Mo_fewestNow 16 = .ok (.iconst 1, 1) := by decide +kernel
theorem d_Mo_fewestNow_17 : decode c_Mo_fewestNow 17 = .ok (.istore 4, 2) := by decide +kernel
theorem d_Mo_fewestNow_19 : decode c_Mo_fewestNow 19 = .ok (.iload 4, 2) := by decide +kernel
theorem d_Mo_fewestNow_21 : decode c_Mo_fewestNow 21 = .ok (.sipush 256, 3) := by decide +kernel
theorem d_Mo_fewestNow_24 : decode c_Mo_fewestNow 24 = .ok (.if_icmp .ge 174, 3) := by decide +kernel
theorem d_Mo_fewestNow_27 : decode c_Mo_fewestNow 27 = .ok (.iload 4, 2) := by decide +kernel
theorem d_Mo_fewestNow_29 : decode c_Mo_fewestNow 29 = .ok (.aload_n 2, 1) := by decide +kernel
theorem d_Mo_fewestNow_30 : decode c_Mo_fewestNow 30 = .ok (.invokevirtual 62, 3) := by decide +kernel
theorem d_Mo_fewestNow_33 : decode c_Mo_fewestNow 33 = .ok (.iconst (-1), 1) := by decide +kernel
theorem d_Mo_fewestNow_34 : decode c_Mo_fewestNow 34 = .ok (.ixor, 1) := by decide +kernel
theorem d_Mo_fewestNow_35 : decode c_Mo_fewestNow 35 = .ok (.iand, 1) := by decide +kernel
theorem d_Mo_fewestNow_36 : decode c_Mo_fewestNow 36 = .ok (.ifCond .ne 156, 3) := by decide +kernel
theorem d_Mo_fewestNow_39 : decode c_Mo_fewestNow 39 = .ok (.iload 4, 2) := by decide +kernel
theorem d_Mo_fewestNow_41 : decode c_Mo_fewestNow 41 = .ok (.invokestatic 66, 3) := by decide +kernel
theorem d_Mo_fewestNow_44 : decode c_Mo_fewestNow 44 = .ok (.aload_n 2, 1) := by decide +kernel
theorem d_Mo_fewestNow_45 : decode c_Mo_fewestNow 45 = .ok (.getfield 69, 3) := by decide +kernel
theorem d_Mo_fewestNow_48 : decode c_Mo_fewestNow 48 = .ok (.if_icmp .ge 6, 3) := by decide +kernel
theorem d_Mo_fewestNow_51 : decode c_Mo_fewestNow 51 = .ok (.goto 141, 3) := by decide +kernel
theorem d_Mo_fewestNow_54 : decode c_Mo_fewestNow 54 = .ok (.iconst 0, 1) := by decide +kernel
theorem d_Mo_fewestNow_55 : decode c_Mo_fewestNow 55 = .ok (.istore 5, 2) := by decide +kernel
theorem d_Mo_fewestNow_57 : decode c_Mo_fewestNow 57 = .ok (.iconst 0, 1) := by decide +kernel
theorem d_Mo_fewestNow_58 : decode c_Mo_fewestNow 58 = .ok (.istore 6, 2) := by decide +kernel
theorem d_Mo_fewestNow_60 : decode c_Mo_fewestNow 60 = .ok (.iload 6, 2) := by decide +kernel
theorem d_Mo_fewestNow_62 : decode c_Mo_fewestNow 62 = .ok (.aload_n 0, 1) := by decide +kernel
theorem d_Mo_fewestNow_63 : decode c_Mo_fewestNow 63 = .ok (.getfield 16, 3) := by decide +kernel
theorem d_Mo_fewestNow_66 : decode c_Mo_fewestNow 66 = .ok (.invokeinterface 94 1, 5) := by decide +kernel
theorem d_Mo_fewestNow_71 : decode c_Mo_fewestNow 71 = .ok (.if_icmp .ge 47, 3) := by decide +kernel
theorem d_Mo_fewestNow_74 : decode c_Mo_fewestNow 74 = .ok (.iload 5, 2) := by decide +kernel
theorem d_Mo_fewestNow_76 : decode c_Mo_fewestNow 76 = .ok (.iload 4, 2) := by decide +kernel
theorem d_Mo_fewestNow_78 : decode c_Mo_fewestNow 78 = .ok (.iload 6, 2) := by decide +kernel
theorem d_Mo_fewestNow_80 : decode c_Mo_fewestNow 80 = .ok (.invokestatic 76, 3) := by decide +kernel
theorem d_Mo_fewestNow_83 : decode c_Mo_fewestNow 83 = .ok (.ifCond .eq 25, 3) := by decide +kernel
theorem d_Mo_fewestNow_86 : decode c_Mo_fewestNow 86 = .ok (.iconst 1, 1) := by decide +kernel
theorem d_Mo_fewestNow_87 : decode c_Mo_fewestNow 87 = .ok (.aload_n 0, 1) := by decide +kernel
theorem d_Mo_fewestNow_88 : decode c_Mo_fewestNow 88 = .ok (.getfield 16, 3) := by decide +kernel
theorem d_Mo_fewestNow_91 : decode c_Mo_fewestNow 91 = .ok (.iload 6, 2) := by decide +kernel
theorem d_Mo_fewestNow_93 : decode c_Mo_fewestNow 93 = .ok (.invokeinterface 51 2, 5) := by decide +kernel
theorem d_Mo_fewestNow_98 : decode c_Mo_fewestNow 98 = .ok (.checkcast 57, 3) := by decide +kernel
theorem d_Mo_fewestNow_101 : decode c_Mo_fewestNow 101 = .ok (.getfield 96, 3) := by decide +kernel
theorem d_Mo_fewestNow_104 : decode c_Mo_fewestNow 104 = .ok (.ishl, 1) := by decide +kernel
theorem d_Mo_fewestNow_105 : decode c_Mo_fewestNow 105 = .ok (.goto 4, 3) := by decide +kernel
theorem d_Mo_fewestNow_108 : decode c_Mo_fewestNow 108 = .ok (.iconst 0, 1) := by decide +kernel
theorem d_Mo_fewestNow_109 : decode c_Mo_fewestNow 109 = .ok (.ior, 1) := by decide +kernel
theorem d_Mo_fewestNow_110 : decode c_Mo_fewestNow 110 = .ok (.istore 5, 2) := by decide +kernel
theorem d_Mo_fewestNow_112 : decode c_Mo_fewestNow 112 = .ok (.iinc 6 1, 3) := by decide +kernel
theorem d_Mo_fewestNow_115 : decode c_Mo_fewestNow 115 = .ok (.goto (-55), 3) := by decide +kernel
theorem d_Mo_fewestNow_118 : decode c_Mo_fewestNow 118 = .ok (.iload 5, 2) := by decide +kernel
theorem d_Mo_fewestNow_120 : decode c_Mo_fewestNow 120 = .ok (.invokestatic 66, 3) := by decide +kernel
theorem d_Mo_fewestNow_123 : decode c_Mo_fewestNow 123 = .ok (.aload_n 2, 1) := by decide +kernel
theorem d_Mo_fewestNow_124 : decode c_Mo_fewestNow 124 = .ok (.getfield 99, 3) := by decide +kernel
theorem d_Mo_fewestNow_127 : decode c_Mo_fewestNow 127 = .ok (.if_icmp .ge 6, 3) := by decide +kernel
theorem d_Mo_fewestNow_130 : decode c_Mo_fewestNow 130 = .ok (.goto 62, 3) := by decide +kernel
theorem d_Mo_fewestNow_133 : decode c_Mo_fewestNow 133 = .ok (.iload_n 3, 1) := by decide +kernel
theorem d_Mo_fewestNow_134 : decode c_Mo_fewestNow 134 = .ok (.ifCond .ne 7, 3) := by decide +kernel
theorem d_Mo_fewestNow_137 : decode c_Mo_fewestNow 137 = .ok (.iconst (-1), 1) := by decide +kernel
theorem d_Mo_fewestNow_138 : decode c_Mo_fewestNow 138 = .ok (.goto 40, 3) := by decide +kernel
theorem d_Mo_fewestNow_141 : decode c_Mo_fewestNow 141 = .ok (.iload 4, 2) := by decide +kernel
theorem d_Mo_fewestNow_143 : decode c_Mo_fewestNow 143 = .ok (.invokestatic 66, 3) := by decide +kernel
theorem d_Mo_fewestNow_146 : decode c_Mo_fewestNow 146 = .ok (.iload_n 3, 1) := by decide +kernel
theorem d_Mo_fewestNow_147 : decode c_Mo_fewestNow 147 = .ok (.invokestatic 66, 3) := by decide +kernel
theorem d_Mo_fewestNow_150 : decode c_Mo_fewestNow 150 = .ok (.if_icmp .eq 16, 3) := by decide +kernel
theorem d_Mo_fewestNow_153 : decode c_Mo_fewestNow 153 = .ok (.iload 4, 2) := by decide +kernel
theorem d_Mo_fewestNow_155 : decode c_Mo_fewestNow 155 = .ok (.invokestatic 66, 3) := by decide +kernel
theorem d_Mo_fewestNow_158 : decode c_Mo_fewestNow 158 = .ok (.iload_n 3, 1) := by decide +kernel
theorem d_Mo_fewestNow_159 : decode c_Mo_fewestNow 159 = .ok (.invokestatic 66, 3) := by decide +kernel
theorem d_Mo_fewestNow_162 : decode c_Mo_fewestNow 162 = .ok (.isub, 1) := by decide +kernel
theorem d_Mo_fewestNow_163 : decode c_Mo_fewestNow 163 = .ok (.goto 15, 3) := by decide +kernel
theorem d_Mo_fewestNow_166 : decode c_Mo_fewestNow 166 = .ok (.aload_n 0, 1) := by decide +kernel
theorem d_Mo_fewestNow_167 : decode c_Mo_fewestNow 167 = .ok (.iload 4, 2) := by decide +kernel
theorem d_Mo_fewestNow_169 : decode c_Mo_fewestNow 169 = .ok (.invokevirtual 207, 3) := by decide +kernel
theorem d_Mo_fewestNow_172 : decode c_Mo_fewestNow 172 = .ok (.aload_n 0, 1) := by decide +kernel
theorem d_Mo_fewestNow_173 : decode c_Mo_fewestNow 173 = .ok (.iload_n 3, 1) := by decide +kernel
theorem d_Mo_fewestNow_174 : decode c_Mo_fewestNow 174 = .ok (.invokevirtual 207, 3) := by decide +kernel
theorem d_Mo_fewestNow_177 : decode c_Mo_fewestNow 177 = .ok (.isub, 1) := by decide +kernel
theorem d_Mo_fewestNow_178 : decode c_Mo_fewestNow 178 = .ok (.istore 6, 2) := by decide +kernel
theorem d_Mo_fewestNow_180 : decode c_Mo_fewestNow 180 = .ok (.iload 6, 2) := by decide +kernel
theorem d_Mo_fewestNow_182 : decode c_Mo_fewestNow 182 = .ok (.ifCond .ge 8, 3) := by decide +kernel
theorem d_Mo_fewestNow_185 : decode c_Mo_fewestNow 185 = .ok (.iload 4, 2) := by decide +kernel
theorem d_Mo_fewestNow_187 : decode c_Mo_fewestNow 187 = .ok (.goto 4, 3) := by decide +kernel
theorem d_Mo_fewestNow_190 : decode c_Mo_fewestNow 190 = .ok (.iload_n 3, 1) := by decide +kernel
theorem d_Mo_fewestNow_191 : decode c_Mo_fewestNow 191 = .ok (.istore_n 3, 1) := by decide +kernel
theorem d_Mo_fewestNow_192 : decode c_Mo_fewestNow 192 = .ok (.iinc 4 1, 3) := by decide +kernel
theorem d_Mo_fewestNow_195 : decode c_Mo_fewestNow 195 = .ok (.goto (-176), 3) := by decide +kernel
theorem d_Mo_fewestNow_198 : decode c_Mo_fewestNow 198 = .ok (.iload_n 3, 1) := by decide +kernel
theorem d_Mo_fewestNow_199 : decode c_Mo_fewestNow 199 = .ok (.ireturn, 1) := by decide +kernel
set_option maxHeartbeats 4000000 in
set_option maxRecDepth 100000 in
theorem m_Mo_fewestNow {g0 : State} {d : zD} {l : Launch} {a0 : Array Value} (hs0 : zS0 d a0 g0) (hst : l.stackTraces = false) {G : zG} {B : Nat → Nat} {V : Nat → Nat → Int32} {nk ns ne ec : Nat} (hM : zM d B V nk ns ne ec G) {si : Nat} (hsi : si < ns) : zMet g0 d l y_Mo_fewestNow c_Mo_fewestNow 7 ((Option.some Jvm.ClassFile.FieldType.int)) 12 0 0 [.ref (B 0), .int (nI si)] (G) (zI1 G) (zNo) := by
  have hnk : nk ≤ 8 := hM.2.1
  have hns : ns ≤ 6 := hM.2.2.1
  have hne : ne ≤ 64 := hM.2.2.2.1
  have hp2 : 2 ^ nk ≤ 256 := Nat.pow_le_pow_right (n := 2) (by decide) hnk
  refine z_entry hs0 hst (by decide) (Nat.le_of_ble_eq_true rfl) (fun p e s m args below meth c => ?_)
  refine z_aload_n 0 d_Mo_fewestNow_0 rfl rfl ?_
  refine z_get zc_Mo 7 (by decide) qF_Mo_20 hM.mo rfl d_Mo_fewestNow_1 ?_
  refine z_iload_n 1 d_Mo_fewestNow_4 rfl rfl ?_
  refine z_callF0 (m_AL_get hs0 hst (hM.sA hsi) hsi (if_pos hsi)) ym_AL_get zF_AL_get qM_Mo_51 zc_AL (hM.sA hsi).1 d_Mo_fewestNow_5 rfl (Nat.le_of_ble_eq_true rfl) ⟨Nat.zero_le _, Nat.zero_le _⟩ ⟨Nat.le_of_ble_eq_true rfl, Nat.le_of_ble_eq_true rfl⟩ ?_
  refine z_castS zc_MS qK_Mo_47 (hM.se hsi).1 d_Mo_fewestNow_10 ?_
  refine z_astore_n (L' := [(2, _), (0, _), (1, _)]) d_Mo_fewestNow_13 rfl (by decide) rfl ?_
  refine z_iconst (v := 0) d_Mo_fewestNow_14 (by decide) ?_
  refine z_istore_n (L' := [(3, _), (2, _), (0, _), (1, _)]) d_Mo_fewestNow_15 rfl (by decide) rfl ?_
  refine z_iconst (v := (nI 1)) d_Mo_fewestNow_16 (by decide) ?_
  refine z_istore (L' := [(4, _), (3, _), (2, _), (0, _), (1, _)]) d_Mo_fewestNow_17 (by decide) rfl ?_
  have key_19 : ∀ (n : Nat) (i : Nat) (v : Int32), 256 - i < n → (i ≤ 256) → Z g0 d y_Mo_fewestNow c_Mo_fewestNow 7 ((Option.some Jvm.ClassFile.FieldType.int)) [] p l e (zR 12 0 0) s m args below meth c (vx_MQ below (zQc g0 d (zI1 G)) (zXc g0 d (zNo)) args s 0 0 (zA g0)) 0 0 (G) [(4, .int (nI i)), (3, .int v), (2, .ref (B (200 + si))), (0, .ref (B 0)), (1, .int (nI si))] [] 19 := by
    intro n
    induction n with
    | zero => intro i v h0; exact absurd h0 (Nat.not_lt_zero _)
    | succ n ih_19 =>
      intro i v hm_19 hi
      refine z_iload 0 d_Mo_fewestNow_19 rfl ?_
      refine z_sipush (v := (nI 256)) d_Mo_fewestNow_21 (by decide) ?_
      refine z_icmp_ge 198 d_Mo_fewestNow_24 (by decide) (fun c_24 => ?_) (fun c_24 => ?_)
      · skip
        refine z_iload_n 1 d_Mo_fewestNow_198 rfl rfl ?_
        exact z_iret rfl (⟨⟨_, rfl⟩, rfl⟩) (by first | decide | omega) (by first | decide | omega) d_Mo_fewestNow_199
      · skip
        have hi6 : i < 256 := Nat.lt_of_not_le fun q => c_24 (nI_le (a := 256) (b := i) q (by omega))
        refine z_iload 0 d_Mo_fewestNow_27 rfl ?_
        refine z_aload_n 2 d_Mo_fewestNow_29 rfl rfl ?_
        refine z_callV0 (m_MS_good hs0 hst (hM.se hsi)) ym_MS_good qM_Mo_62 qI_MS_good qV_MS_MS_good zc_MS (hM.se hsi).1 d_Mo_fewestNow_30 rfl (Nat.le_of_ble_eq_true rfl) ⟨Nat.zero_le _, Nat.zero_le _⟩ ⟨Nat.le_of_ble_eq_true rfl, Nat.le_of_ble_eq_true rfl⟩ ?_
        refine z_iconst (v := (-1)) d_Mo_fewestNow_33 (by decide) ?_
        refine z_ixor d_Mo_fewestNow_34 ?_
        refine z_iand d_Mo_fewestNow_35 ?_
        refine z_if_ne 192 d_Mo_fewestNow_36 (by decide) (fun c_36 => ?_) (fun c_36 => ?_)
        · skip
          refine z_iinc (v := nI (i + 1)) (L' := [(4, _), (3, _), (2, _), (0, _), (1, _)]) 0 d_Mo_fewestNow_192 rfl (nI_1 i) (by decide) rfl ?_
          refine z_goto 19 d_Mo_fewestNow_195 (by decide) ?_
          exact ih_19 (i + 1) _ (by omega) (by omega)
        · skip
          refine z_iload 0 d_Mo_fewestNow_39 rfl ?_
          refine z_callSp0 ((m_Mo_sizeA hs0 hst _)) ym_Mo_size qM_Mo_66 qS_Mo_size d_Mo_fewestNow_41 rfl (Nat.le_of_ble_eq_true rfl) ⟨Nat.zero_le _, Nat.zero_le _⟩ ⟨Nat.le_of_ble_eq_true rfl, Nat.le_of_ble_eq_true rfl⟩ (fun r_41 G_41 hp_41 => ?_)
          obtain ⟨⟨v_41, rfl⟩, rfl⟩ := hp_41
          refine z_aload_n 2 d_Mo_fewestNow_44 rfl rfl ?_
          refine z_get zc_MS 0 (by decide) qF_Mo_69 (hM.se hsi).1 rfl d_Mo_fewestNow_45 ?_
          refine z_icmp_ge 54 d_Mo_fewestNow_48 (by decide) (fun c_48 => ?_) (fun c_48 => ?_)
          · skip
            refine z_iconst (v := 0) d_Mo_fewestNow_54 (by decide) ?_
            refine z_istore (L' := [(5, _), (4, _), (3, _), (2, _), (0, _), (1, _)]) d_Mo_fewestNow_55 (by decide) rfl ?_
            refine z_iconst (v := (nI 0)) d_Mo_fewestNow_57 (by decide) ?_
            refine z_istore (L' := [(6, _), (5, _), (4, _), (3, _), (2, _), (0, _), (1, _)]) d_Mo_fewestNow_58 (by decide) rfl ?_
            have key_60 : ∀ (n : Nat) (j : Nat) (w : Int32), nk - j < n → (j ≤ nk) → Z g0 d y_Mo_fewestNow c_Mo_fewestNow 7 ((Option.some Jvm.ClassFile.FieldType.int)) [] p l e (zR 12 0 0) s m args below meth c (vx_MQ below (zQc g0 d (zI1 G)) (zXc g0 d (zNo)) args s 0 0 (zA g0)) 0 0 (G) [(6, .int (nI j)), (5, .int w), (4, .int (nI i)), (3, .int v), (2, .ref (B (200 + si))), (0, .ref (B 0)), (1, .int (nI si))] [] 60 := by
              intro n
              induction n with
              | zero => intro j w h0; exact absurd h0 (Nat.not_lt_zero _)
              | succ n ih_60 =>
                intro j w hm_60 hj
                refine z_iload 0 d_Mo_fewestNow_60 rfl ?_
                refine z_aload_n 5 d_Mo_fewestNow_62 rfl rfl ?_
                refine z_get zc_Mo 6 (by decide) qF_Mo_16 hM.mo rfl d_Mo_fewestNow_63 ?_
                refine z_callF0 (m_AL_size hs0 hst hM.kl) ym_AL_size zF_AL_size qM_Mo_94 zc_AL hM.kl d_Mo_fewestNow_66 rfl (Nat.le_of_ble_eq_true rfl) ⟨Nat.zero_le _, Nat.zero_le _⟩ ⟨Nat.le_of_ble_eq_true rfl, Nat.le_of_ble_eq_true rfl⟩ ?_
                refine z_icmp_ge 118 d_Mo_fewestNow_71 (by decide) (fun c_71 => ?_) (fun c_71 => ?_)
                · skip
                  refine z_iload 1 d_Mo_fewestNow_118 rfl ?_
                  refine z_callSp0 ((m_Mo_sizeA hs0 hst _)) ym_Mo_size qM_Mo_66 qS_Mo_size d_Mo_fewestNow_120 rfl (Nat.le_of_ble_eq_true rfl) ⟨Nat.zero_le _, Nat.zero_le _⟩ ⟨Nat.le_of_ble_eq_true rfl, Nat.le_of_ble_eq_true rfl⟩ (fun r_120 G_120 hp_120 => ?_)
                  obtain ⟨⟨v_120, rfl⟩, rfl⟩ := hp_120
                  refine z_aload_n 4 d_Mo_fewestNow_123 rfl rfl ?_
                  refine z_get zc_MS 1 (by decide) qF_Mo_99 (hM.se hsi).1 rfl d_Mo_fewestNow_124 ?_
                  refine z_icmp_ge 133 d_Mo_fewestNow_127 (by decide) (fun c_127 => ?_) (fun c_127 => ?_)
                  · skip
                    refine z_iload_n 3 d_Mo_fewestNow_133 rfl rfl ?_
                    refine z_if_ne 141 d_Mo_fewestNow_134 (by decide) (fun c_134 => ?_) (fun c_134 => ?_)
                    · skip
                      refine z_iload 2 d_Mo_fewestNow_141 rfl ?_
                      refine z_callSp0 ((m_Mo_sizeA hs0 hst _)) ym_Mo_size qM_Mo_66 qS_Mo_size d_Mo_fewestNow_143 rfl (Nat.le_of_ble_eq_true rfl) ⟨Nat.zero_le _, Nat.zero_le _⟩ ⟨Nat.le_of_ble_eq_true rfl, Nat.le_of_ble_eq_true rfl⟩ (fun r_143 G_143 hp_143 => ?_)
                      obtain ⟨⟨v_143, rfl⟩, rfl⟩ := hp_143
                      refine z_iload_n 3 d_Mo_fewestNow_146 rfl rfl ?_
                      refine z_callSp0 ((m_Mo_sizeA hs0 hst _)) ym_Mo_size qM_Mo_66 qS_Mo_size d_Mo_fewestNow_147 rfl (Nat.le_of_ble_eq_true rfl) ⟨Nat.zero_le _, Nat.zero_le _⟩ ⟨Nat.le_of_ble_eq_true rfl, Nat.le_of_ble_eq_true rfl⟩ (fun r_147 G_147 hp_147 => ?_)
                      obtain ⟨⟨v_147, rfl⟩, rfl⟩ := hp_147
                      refine z_icmp_eq 166 d_Mo_fewestNow_150 (by decide) (fun c_150 => ?_) (fun c_150 => ?_)
                      · skip
                        refine z_aload_n 5 d_Mo_fewestNow_166 rfl rfl ?_
                        refine z_iload 2 d_Mo_fewestNow_167 rfl ?_
                        refine z_callVp0 (m_Mo_priceOf hs0 hst hM _) ym_Mo_priceOf qM_Mo_207 qI_Mo_priceOf qV_Mo_Mo_priceOf zc_Mo hM.mo d_Mo_fewestNow_169 rfl (Nat.le_of_ble_eq_true rfl) ⟨Nat.zero_le _, Nat.zero_le _⟩ ⟨Nat.le_of_ble_eq_true rfl, Nat.le_of_ble_eq_true rfl⟩ (fun r_169 G_169 hp_169 => ?_)
                        obtain ⟨⟨v_169, rfl⟩, rfl⟩ := hp_169
                        refine z_aload_n 5 d_Mo_fewestNow_172 rfl rfl ?_
                        refine z_iload_n 3 d_Mo_fewestNow_173 rfl rfl ?_
                        refine z_callVp0 (m_Mo_priceOf hs0 hst hM _) ym_Mo_priceOf qM_Mo_207 qI_Mo_priceOf qV_Mo_Mo_priceOf zc_Mo hM.mo d_Mo_fewestNow_174 rfl (Nat.le_of_ble_eq_true rfl) ⟨Nat.zero_le _, Nat.zero_le _⟩ ⟨Nat.le_of_ble_eq_true rfl, Nat.le_of_ble_eq_true rfl⟩ (fun r_174 G_174 hp_174 => ?_)
                        obtain ⟨⟨v_174, rfl⟩, rfl⟩ := hp_174
                        refine z_isub d_Mo_fewestNow_177 ?_
                        refine z_istore (L' := [(6, _), (5, _), (4, _), (3, _), (2, _), (0, _), (1, _)]) d_Mo_fewestNow_178 (by decide) rfl ?_
                        refine z_iload 0 d_Mo_fewestNow_180 rfl ?_
                        refine z_if_ge 190 d_Mo_fewestNow_182 (by decide) (fun c_182 => ?_) (fun c_182 => ?_)
                        · skip
                          refine z_iload_n 3 d_Mo_fewestNow_190 rfl rfl ?_
                          refine z_istore_n (L' := [(3, _), (6, _), (5, _), (4, _), (2, _), (0, _), (1, _)]) d_Mo_fewestNow_191 rfl (by decide) rfl ?_
                          refine z_iinc (v := nI (i + 1)) (L' := [(4, _), (3, _), (6, _), (5, _), (2, _), (0, _), (1, _)]) 3 d_Mo_fewestNow_192 rfl (nI_1 i) (by decide) rfl ?_
                          refine z_goto 19 d_Mo_fewestNow_195 (by decide) ?_
                          refine z_sub (L' := [(4, _), (3, _), (2, _), (0, _), (1, _)]) [0, 1, 4, 5, 6] rfl ?_
                          exact ih_19 (i + 1) _ (by omega) (by omega)
                        · skip
                          refine z_iload 2 d_Mo_fewestNow_185 rfl ?_
                          refine z_goto 191 d_Mo_fewestNow_187 (by decide) ?_
                          refine z_istore_n (L' := [(3, _), (6, _), (5, _), (4, _), (2, _), (0, _), (1, _)]) d_Mo_fewestNow_191 rfl (by decide) rfl ?_
                          refine z_iinc (v := nI (i + 1)) (L' := [(4, _), (3, _), (6, _), (5, _), (2, _), (0, _), (1, _)]) 3 d_Mo_fewestNow_192 rfl (nI_1 i) (by decide) rfl ?_
                          refine z_goto 19 d_Mo_fewestNow_195 (by decide) ?_
                          refine z_sub (L' := [(4, _), (3, _), (2, _), (0, _), (1, _)]) [0, 1, 4, 5, 6] rfl ?_
                          exact ih_19 (i + 1) _ (by omega) (by omega)
                      · skip
                        refine z_iload 2 d_Mo_fewestNow_153 rfl ?_
                        refine z_callSp0 ((m_Mo_sizeA hs0 hst _)) ym_Mo_size qM_Mo_66 qS_Mo_size d_Mo_fewestNow_155 rfl (Nat.le_of_ble_eq_true rfl) ⟨Nat.zero_le _, Nat.zero_le _⟩ ⟨Nat.le_of_ble_eq_true rfl, Nat.le_of_ble_eq_true rfl⟩ (fun r_155 G_155 hp_155 => ?_)
                        obtain ⟨⟨v_155, rfl⟩, rfl⟩ := hp_155
                        refine z_iload_n 3 d_Mo_fewestNow_158 rfl rfl ?_
                        refine z_callSp0 ((m_Mo_sizeA hs0 hst _)) ym_Mo_size qM_Mo_66 qS_Mo_size d_Mo_fewestNow_159 rfl (Nat.le_of_ble_eq_true rfl) ⟨Nat.zero_le _, Nat.zero_le _⟩ ⟨Nat.le_of_ble_eq_true rfl, Nat.le_of_ble_eq_true rfl⟩ (fun r_159 G_159 hp_159 => ?_)
                        obtain ⟨⟨v_159, rfl⟩, rfl⟩ := hp_159
                        refine z_isub d_Mo_fewestNow_162 ?_
                        refine z_goto 178 d_Mo_fewestNow_163 (by decide) ?_
                        refine z_istore (L' := [(6, _), (5, _), (4, _), (3, _), (2, _), (0, _), (1, _)]) d_Mo_fewestNow_178 (by decide) rfl ?_
                        refine z_iload 0 d_Mo_fewestNow_180 rfl ?_
                        refine z_if_ge 190 d_Mo_fewestNow_182 (by decide) (fun c_182 => ?_) (fun c_182 => ?_)
                        · skip
                          refine z_iload_n 3 d_Mo_fewestNow_190 rfl rfl ?_
                          refine z_istore_n (L' := [(3, _), (6, _), (5, _), (4, _), (2, _), (0, _), (1, _)]) d_Mo_fewestNow_191 rfl (by decide) rfl ?_
                          refine z_iinc (v := nI (i + 1)) (L' := [(4, _), (3, _), (6, _), (5, _), (2, _), (0, _), (1, _)]) 3 d_Mo_fewestNow_192 rfl (nI_1 i) (by decide) rfl ?_
                          refine z_goto 19 d_Mo_fewestNow_195 (by decide) ?_
                          refine z_sub (L' := [(4, _), (3, _), (2, _), (0, _), (1, _)]) [0, 1, 4, 5, 6] rfl ?_
                          exact ih_19 (i + 1) _ (by omega) (by omega)
                        · skip
                          refine z_iload 2 d_Mo_fewestNow_185 rfl ?_
                          refine z_goto 191 d_Mo_fewestNow_187 (by decide) ?_
                          refine z_istore_n (L' := [(3, _), (6, _), (5, _), (4, _), (2, _), (0, _), (1, _)]) d_Mo_fewestNow_191 rfl (by decide) rfl ?_
                          refine z_iinc (v := nI (i + 1)) (L' := [(4, _), (3, _), (6, _), (5, _), (2, _), (0, _), (1, _)]) 3 d_Mo_fewestNow_192 rfl (nI_1 i) (by decide) rfl ?_
                          refine z_goto 19 d_Mo_fewestNow_195 (by decide) ?_
                          refine z_sub (L' := [(4, _), (3, _), (2, _), (0, _), (1, _)]) [0, 1, 4, 5, 6] rfl ?_
                          exact ih_19 (i + 1) _ (by omega) (by omega)
                    · skip
                      refine z_iconst (v := (-1)) d_Mo_fewestNow_137 (by decide) ?_
                      refine z_goto 178 d_Mo_fewestNow_138 (by decide) ?_
                      refine z_istore (L' := [(6, _), (5, _), (4, _), (3, _), (2, _), (0, _), (1, _)]) d_Mo_fewestNow_178 (by decide) rfl ?_
                      refine z_iload 0 d_Mo_fewestNow_180 rfl ?_
                      refine z_if_ge 190 d_Mo_fewestNow_182 (by decide) (fun c_182 => ?_) (fun c_182 => ?_)
                      · skip
                        refine z_iload_n 3 d_Mo_fewestNow_190 rfl rfl ?_
                        refine z_istore_n (L' := [(3, _), (6, _), (5, _), (4, _), (2, _), (0, _), (1, _)]) d_Mo_fewestNow_191 rfl (by decide) rfl ?_
                        refine z_iinc (v := nI (i + 1)) (L' := [(4, _), (3, _), (6, _), (5, _), (2, _), (0, _), (1, _)]) 3 d_Mo_fewestNow_192 rfl (nI_1 i) (by decide) rfl ?_
                        refine z_goto 19 d_Mo_fewestNow_195 (by decide) ?_
                        refine z_sub (L' := [(4, _), (3, _), (2, _), (0, _), (1, _)]) [0, 1, 4, 5, 6] rfl ?_
                        exact ih_19 (i + 1) _ (by omega) (by omega)
                      · skip
                        refine z_iload 2 d_Mo_fewestNow_185 rfl ?_
                        refine z_goto 191 d_Mo_fewestNow_187 (by decide) ?_
                        refine z_istore_n (L' := [(3, _), (6, _), (5, _), (4, _), (2, _), (0, _), (1, _)]) d_Mo_fewestNow_191 rfl (by decide) rfl ?_
                        refine z_iinc (v := nI (i + 1)) (L' := [(4, _), (3, _), (6, _), (5, _), (2, _), (0, _), (1, _)]) 3 d_Mo_fewestNow_192 rfl (nI_1 i) (by decide) rfl ?_
                        refine z_goto 19 d_Mo_fewestNow_195 (by decide) ?_
                        refine z_sub (L' := [(4, _), (3, _), (2, _), (0, _), (1, _)]) [0, 1, 4, 5, 6] rfl ?_
                        exact ih_19 (i + 1) _ (by omega) (by omega)
                  · skip
                    refine z_goto 192 d_Mo_fewestNow_130 (by decide) ?_
                    refine z_iinc (v := nI (i + 1)) (L' := [(4, _), (6, _), (5, _), (3, _), (2, _), (0, _), (1, _)]) 2 d_Mo_fewestNow_192 rfl (nI_1 i) (by decide) rfl ?_
                    refine z_goto 19 d_Mo_fewestNow_195 (by decide) ?_
                    refine z_sub (L' := [(4, _), (3, _), (2, _), (0, _), (1, _)]) [0, 3, 4, 5, 6] rfl ?_
                    exact ih_19 (i + 1) _ (by omega) (by omega)
                · skip
                  have hj6 : j < nk := Nat.lt_of_not_le fun q => c_71 (nI_le q (by omega))
                  refine z_iload 1 d_Mo_fewestNow_74 rfl ?_
                  refine z_iload 2 d_Mo_fewestNow_76 rfl ?_
                  refine z_iload 0 d_Mo_fewestNow_78 rfl ?_
                  refine z_callS0 (m_Mo_has hs0 hst (nI i) (nI j)) ym_Mo_has qM_Mo_76 qS_Mo_has d_Mo_fewestNow_80 rfl (Nat.le_of_ble_eq_true rfl) ⟨Nat.zero_le _, Nat.zero_le _⟩ ⟨Nat.le_of_ble_eq_true rfl, Nat.le_of_ble_eq_true rfl⟩ ?_
                  refine z_if_eq 108 d_Mo_fewestNow_83 (by decide) (fun c_83 => ?_) (fun c_83 => ?_)
                  · skip
                    refine z_iconst (v := 0) d_Mo_fewestNow_108 (by decide) ?_
                    refine z_ior d_Mo_fewestNow_109 ?_
                    refine z_istore (L' := [(5, _), (6, _), (4, _), (3, _), (2, _), (0, _), (1, _)]) d_Mo_fewestNow_110 (by decide) rfl ?_
                    refine z_iinc (v := nI (j + 1)) (L' := [(6, _), (5, _), (4, _), (3, _), (2, _), (0, _), (1, _)]) 1 d_Mo_fewestNow_112 rfl (nI_1 j) (by decide) rfl ?_
                    refine z_goto 60 d_Mo_fewestNow_115 (by decide) ?_
                    exact ih_60 (j + 1) _ (by omega) (by omega)
                  · skip
                    refine z_iconst (v := 1) d_Mo_fewestNow_86 (by decide) ?_
                    refine z_aload_n 5 d_Mo_fewestNow_87 rfl rfl ?_
                    refine z_get zc_Mo 6 (by decide) qF_Mo_16 hM.mo rfl d_Mo_fewestNow_88 ?_
                    refine z_iload 0 d_Mo_fewestNow_91 rfl ?_
                    refine z_callF0 (m_AL_get hs0 hst (hM.kA hj6) hj6 (if_pos hj6)) ym_AL_get zF_AL_get qM_Mo_51 zc_AL (hM.kA hj6).1 d_Mo_fewestNow_93 rfl (Nat.le_of_ble_eq_true rfl) ⟨Nat.zero_le _, Nat.zero_le _⟩ ⟨Nat.le_of_ble_eq_true rfl, Nat.le_of_ble_eq_true rfl⟩ ?_
                    refine z_castS zc_MK qK_Mo_57 (hM.ke hj6) d_Mo_fewestNow_98 ?_
                    refine z_get zc_MK 0 (by decide) qF_Mo_96 (hM.ke hj6) rfl d_Mo_fewestNow_101 ?_
                    refine z_ishl d_Mo_fewestNow_104 ?_
                    refine z_goto 109 d_Mo_fewestNow_105 (by decide) ?_
                    refine z_ior d_Mo_fewestNow_109 ?_
                    refine z_istore (L' := [(5, _), (6, _), (4, _), (3, _), (2, _), (0, _), (1, _)]) d_Mo_fewestNow_110 (by decide) rfl ?_
                    refine z_iinc (v := nI (j + 1)) (L' := [(6, _), (5, _), (4, _), (3, _), (2, _), (0, _), (1, _)]) 1 d_Mo_fewestNow_112 rfl (nI_1 j) (by decide) rfl ?_
                    refine z_goto 60 d_Mo_fewestNow_115 (by decide) ?_
                    exact ih_60 (j + 1) _ (by omega) (by omega)
            exact key_60 (nk + 1) 0 _ (by omega) (by omega)
          · skip
            refine z_goto 192 d_Mo_fewestNow_51 (by decide) ?_
            refine z_iinc (v := nI (i + 1)) (L' := [(4, _), (3, _), (2, _), (0, _), (1, _)]) 0 d_Mo_fewestNow_192 rfl (nI_1 i) (by decide) rfl ?_
            refine z_goto 19 d_Mo_fewestNow_195 (by decide) ?_
            exact ih_19 (i + 1) _ (by omega) (by omega)
  exact key_19 257 1 _ (by omega) (by omega)
theorem d_Mo_isOneCurve_0 : decode c_Mo_isOneCurve 0 = .ok (.bipush 8, 2) := by decide +kernel
theorem d_Mo_isOneCurve_2 : decode c_Mo_isOneCurve 2 = .ok (.newarray .int, 2) := by decide +kernel
theorem d_Mo_isOneCurve_4 : decode c_Mo_isOneCurve 4 = .ok (.astore_n 2, 1) := by decide +kernel
theorem d_Mo_isOneCurve_5 : decode c_Mo_isOneCurve 5 = .ok (.bipush 8, 2) := by decide +kernel
theorem d_Mo_isOneCurve_7 : decode c_Mo_isOneCurve 7 = .ok (.newarray .int, 2) := by decide +kernel
theorem d_Mo_isOneCurve_9 : decode c_Mo_isOneCurve 9 = .ok (.astore_n 3, 1) := by decide +kernel
theorem d_Mo_isOneCurve_10 : decode c_Mo_isOneCurve 10 = .ok (.iconst 0, 1) := by decide +kernel
theorem d_Mo_isOneCurve_11 : decode c_Mo_isOneCurve 11 = .ok (.istore 4, 2) := by decide +kernel
theorem d_Mo_isOneCurve_13 : decode c_Mo_isOneCurve 13 = .ok (.iconst 0, 1) := by decide +kernel
theorem d_Mo_isOneCurve_14 : decode c_Mo_isOneCurve 14 = .ok (.istore 5, 2) := by decide +kernel
theorem d_Mo_isOneCurve_16 : decode c_Mo_isOneCurve 16 = .ok (.iload 5, 2) := by decide +kernel
theorem d_Mo_isOneCurve_18 : decode c_Mo_isOneCurve 18 = .ok (.bipush 8, 2) := by decide +kernel
theorem d_Mo_isOneCurve_20 : decode c_Mo_isOneCurve 20 = .ok (.if_icmp .ge 88, 3) := by decide +kernel
theorem d_Mo_isOneCurve_23 : decode c_Mo_isOneCurve 23 = .ok (.aload_n 1, 1) := by decide +kernel
theorem d_Mo_isOneCurve_24 : decode c_Mo_isOneCurve 24 = .ok (.iload 5, 2) := by decide +kernel
theorem d_Mo_isOneCurve_26 : decode c_Mo_isOneCurve 26 = .ok (.invokevirtual 159, 3) := by decide +kernel
theorem d_Mo_isOneCurve_29 : decode c_Mo_isOneCurve 29 = .ok (.ifCond .ne 6, 3) := by decide +kernel
theorem d_Mo_isOneCurve_32 : decode c_Mo_isOneCurve 32 = .ok (.goto 70, 3) := by decide +kernel
theorem d_Mo_isOneCurve_35 : decode c_Mo_isOneCurve 35 = .ok (.iload 4, 2) := by decide +kernel
theorem d_Mo_isOneCurve_37 : decode c_Mo_isOneCurve 37 = .ok (.aload_n 1, 1) := by decide +kernel
theorem d_Mo_isOneCurve_38 : decode c_Mo_isOneCurve 38 = .ok (.getfield 69, 3) := by decide +kernel
theorem d_Mo_isOneCurve_41 : decode c_Mo_isOneCurve 41 = .ok (.if_icmp .ne 27, 3) := by decide +kernel
theorem d_Mo_isOneCurve_44 : decode c_Mo_isOneCurve 44 = .ok (.aload_n 0, 1) := by decide +kernel
theorem d_Mo_isOneCurve_45 : decode c_Mo_isOneCurve 45 = .ok (.aload_n 2, 1) := by decide +kernel
theorem d_Mo_isOneCurve_46 : decode c_Mo_isOneCurve 46 = .ok (.aload_n 3, 1) := by decide +kernel
theorem d_Mo_isOneCurve_47 : decode c_Mo_isOneCurve 47 = .ok (.iload 4, 2) := by decide +kernel
theorem d_Mo_isOneCurve_49 : decode c_Mo_isOneCurve 49 = .ok (.iload 5, 2) := by decide +kernel
theorem d_Mo_isOneCurve_51 : decode c_Mo_isOneCurve 51 = .ok (.iconst 1, 1) := by decide +kernel
theorem d_Mo_isOneCurve_52 : decode c_Mo_isOneCurve 52 = .ok (.iadd, 1) := by decide +kernel
theorem d_Mo_isOneCurve_53 : decode c_Mo_isOneCurve 53 = .ok (.invokevirtual 84, 3) := by decide +kernel
theorem d_Mo_isOneCurve_56 : decode c_Mo_isOneCurve 56 = .ok (.aload_n 1, 1) := by decide +kernel
theorem d_Mo_isOneCurve_57 : decode c_Mo_isOneCurve 57 = .ok (.getfield 46, 3) := by decide +kernel
theorem d_Mo_isOneCurve_60 : decode c_Mo_isOneCurve 60 = .ok (.iload 5, 2) := by decide +kernel
theorem d_Mo_isOneCurve_62 : decode c_Mo_isOneCurve 62 = .ok (.iaload, 1) := by decide +kernel
theorem d_Mo_isOneCurve_63 : decode c_Mo_isOneCurve 63 = .ok (.if_icmp .eq 5, 3) := by decide +kernel
theorem d_Mo_isOneCurve_66 : decode c_Mo_isOneCurve 66 = .ok (.iconst 0, 1) := by decide +kernel
theorem d_Mo_isOneCurve_67 : decode c_Mo_isOneCurve 67 = .ok (.ireturn, 1) := by decide +kernel
theorem d_Mo_isOneCurve_68 : decode c_Mo_isOneCurve 68 = .ok (.iload 4, 2) := by decide +kernel
theorem d_Mo_isOneCurve_70 : decode c_Mo_isOneCurve 70 = .ok (.aload_n 1, 1) := by decide +kernel
theorem d_Mo_isOneCurve_71 : decode c_Mo_isOneCurve 71 = .ok (.getfield 69, 3) := by decide +kernel
theorem d_Mo_isOneCurve_74 : decode c_Mo_isOneCurve 74 = .ok (.if_icmp .ne 6, 3) := by decide +kernel
theorem d_Mo_isOneCurve_77 : decode c_Mo_isOneCurve 77 = .ok (.goto 25, 3) := by decide +kernel
theorem d_Mo_isOneCurve_80 : decode c_Mo_isOneCurve 80 = .ok (.aload_n 2, 1) := by decide +kernel
theorem d_Mo_isOneCurve_81 : decode c_Mo_isOneCurve 81 = .ok (.iload 4, 2) := by decide +kernel
theorem d_Mo_isOneCurve_83 : decode c_Mo_isOneCurve 83 = .ok (.iload 5, 2) := by decide +kernel
theorem d_Mo_isOneCurve_85 : decode c_Mo_isOneCurve 85 = .ok (.iconst 1, 1) := by decide +kernel
theorem d_Mo_isOneCurve_86 : decode c_Mo_isOneCurve 86 = .ok (.iadd, 1) := by decide +kernel
theorem d_Mo_isOneCurve_87 : decode c_Mo_isOneCurve 87 = .ok (.iastore, 1) := by decide +kernel
theorem d_Mo_isOneCurve_88 : decode c_Mo_isOneCurve 88 = .ok (.aload_n 3, 1) := by decide +kernel
theorem d_Mo_isOneCurve_89 : decode c_Mo_isOneCurve 89 = .ok (.iload 4, 2) := by decide +kernel
theorem d_Mo_isOneCurve_91 : decode c_Mo_isOneCurve 91 = .ok (.aload_n 1, 1) := by decide +kernel
theorem d_Mo_isOneCurve_92 : decode c_Mo_isOneCurve 92 = .ok (.getfield 46, 3) := by decide +kernel
theorem d_Mo_isOneCurve_95 : decode c_Mo_isOneCurve 95 = .ok (.iload 5, 2) := by decide +kernel
theorem d_Mo_isOneCurve_97 : decode c_Mo_isOneCurve 97 = .ok (.iaload, 1) := by decide +kernel
theorem d_Mo_isOneCurve_98 : decode c_Mo_isOneCurve 98 = .ok (.iastore, 1) := by decide +kernel
theorem d_Mo_isOneCurve_99 : decode c_Mo_isOneCurve 99 = .ok (.iinc 4 1, 3) := by decide +kernel
theorem d_Mo_isOneCurve_102 : decode c_Mo_isOneCurve 102 = .ok (.iinc 5 1, 3) := by decide +kernel
theorem d_Mo_isOneCurve_105 : decode c_Mo_isOneCurve 105 = .ok (.goto (-89), 3) := by decide +kernel
theorem d_Mo_isOneCurve_108 : decode c_Mo_isOneCurve 108 = .ok (.iconst 1, 1) := by decide +kernel
theorem d_Mo_isOneCurve_109 : decode c_Mo_isOneCurve 109 = .ok (.ireturn, 1) := by decide +kernel
set_option maxHeartbeats 4000000 in
set_option maxRecDepth 100000 in
theorem m_Mo_isOneCurve {g0 : State} {d : zD} {l : Launch} {a0 : Array Value} (hs0 : zS0 d a0 g0) (hst : l.stackTraces = false) {G : zG} {B : Nat → Nat} {V : Nat → Nat → Int32} {nk ns ne ec : Nat} (hM : zM d B V nk ns ne ec G) {si : Nat} (hsi : si < ns) : zMet g0 d l y_Mo_isOneCurve c_Mo_isOneCurve 6 ((Option.some Jvm.ClassFile.FieldType.boolean)) 3 2 16 [.ref (B 0), .ref (B (200 + si))] (G) (mTs d B nk ns ne ec V G zrB) (zNo) := by
  have hnk : nk ≤ 8 := hM.2.1
  have hns : ns ≤ 6 := hM.2.2.1
  have hne : ne ≤ 64 := hM.2.2.2.1
  have hp2 : 2 ^ nk ≤ 256 := Nat.pow_le_pow_right (n := 2) (by decide) hnk
  refine z_entry hs0 hst (by decide) (Nat.le_of_ble_eq_true rfl) (fun p e s m args below meth c => ?_)
  refine z_bipush (v := 8) d_Mo_isOneCurve_0 (by decide) ?_
  refine z_newaI 8 qA_int (by decide) rfl (by decide) ⟨by decide, by decide⟩ d_Mo_isOneCurve_2 (fun a ha hab => ?_)
  refine z_astore_n (L' := [(2, _), (0, _), (1, _)]) d_Mo_isOneCurve_4 rfl (by decide) rfl ?_
  refine z_bipush (v := 8) d_Mo_isOneCurve_5 (by decide) ?_
  refine z_newaI 8 qA_int (by decide) rfl (by decide) ⟨by decide, by decide⟩ d_Mo_isOneCurve_7 (fun b hb hbb => ?_)
  have nab : a ≠ b := ne_of_none zu_s hb
  have hb0 : G b = none := by rw [zu_n nab.symm] at hb; exact hb
  have hMo : ∀ u w, zM d B V nk ns ne ec (zu (zu G a u) b w) := fun u w => (hM.out (hM.nn_ ha)).out (hM.nn_ hb0)
  refine z_astore_n (L' := [(3, _), (2, _), (0, _), (1, _)]) d_Mo_isOneCurve_9 rfl (by decide) rfl ?_
  refine z_iconst (v := (nI 0)) d_Mo_isOneCurve_10 (by decide) ?_
  refine z_istore (L' := [(4, _), (3, _), (2, _), (0, _), (1, _)]) d_Mo_isOneCurve_11 (by decide) rfl ?_
  refine z_iconst (v := (nI 0)) d_Mo_isOneCurve_13 (by decide) ?_
  refine z_istore (L' := [(5, _), (4, _), (3, _), (2, _), (0, _), (1, _)]) d_Mo_isOneCurve_14 (by decide) rfl ?_
  have key_16 : ∀ (n : Nat) (i : Nat) (ct : Nat) (P2 N2 : Nat → Int32), 8 - i < n → (i ≤ 8) → (ct ≤ i) → Z g0 d y_Mo_isOneCurve c_Mo_isOneCurve 6 ((Option.some Jvm.ClassFile.FieldType.boolean)) [] p l e (zR 3 2 16) s m args below meth c (vx_MQ below (zQc g0 d (mTs d B nk ns ne ec V G zrB)) (zXc g0 d (zNo)) args s 2 16 (zA g0)) 2 16 (zu (zu G a (zI d 8 P2)) b (zI d 8 N2)) [(5, .int (nI i)), (4, .int (nI ct)), (3, .ref b), (2, .ref a), (0, .ref (B 0)), (1, .ref (B (200 + si)))] [] 16 := by
    intro n
    induction n with
    | zero => intro i ct P2 N2 h0; exact absurd h0 (Nat.not_lt_zero _)
    | succ n ih_16 =>
      intro i ct P2 N2 hm_16 hi hct
      refine z_iload 0 d_Mo_isOneCurve_16 rfl ?_
      refine z_bipush (v := 8) d_Mo_isOneCurve_18 (by decide) ?_
      refine z_icmp_ge 108 d_Mo_isOneCurve_20 (by decide) (fun c_20 => ?_) (fun c_20 => ?_)
      · skip
        refine z_iconst (v := 1) d_Mo_isOneCurve_108 (by decide) ?_
        exact z_zret rfl (by first | rfl | exact zb_nar _) (⟨⟨true, rfl⟩, V, hMo _ _, zKp.rf, (zFr.new ha).nw hb0⟩) (by first | decide | omega) (by first | decide | omega) d_Mo_isOneCurve_109
      · skip
        have hi6 : i < 8 := Nat.lt_of_not_le fun q => c_20 (nI_le (a := 8) (b := i) q (by omega))
        refine z_aload_n 5 d_Mo_isOneCurve_23 rfl rfl ?_
        refine z_iload 0 d_Mo_isOneCurve_24 rfl ?_
        refine z_callV0 (m_MS_isGood hs0 hst ((hMo _ _).se hsi) hi6) ym_MS_isGood qM_Mo_159 qI_MS_isGood qV_MS_MS_isGood zc_MS ((hMo _ _).se hsi).1 d_Mo_isOneCurve_26 rfl (Nat.le_of_ble_eq_true rfl) ⟨by decide, by decide⟩ ⟨Nat.le_of_ble_eq_true rfl, Nat.le_of_ble_eq_true rfl⟩ ?_
        refine z_if_ne 35 d_Mo_isOneCurve_29 (by decide) (fun c_29 => ?_) (fun c_29 => ?_)
        · skip
          refine z_iload 1 d_Mo_isOneCurve_35 rfl ?_
          refine z_aload_n 5 d_Mo_isOneCurve_37 rfl rfl ?_
          refine z_get zc_MS 0 (by decide) qF_Mo_69 ((hMo _ _).se hsi).1 rfl d_Mo_isOneCurve_38 ?_
          refine z_icmp_ne 68 d_Mo_isOneCurve_41 (by decide) (fun c_41 => ?_) (fun c_41 => ?_)
          · skip
            refine z_iload 1 d_Mo_isOneCurve_68 rfl ?_
            refine z_aload_n 5 d_Mo_isOneCurve_70 rfl rfl ?_
            refine z_get zc_MS 0 (by decide) qF_Mo_69 ((hMo _ _).se hsi).1 rfl d_Mo_isOneCurve_71 ?_
            refine z_icmp_ne 80 d_Mo_isOneCurve_74 (by decide) (fun c_74 => ?_) (fun c_74 => ?_)
            · skip
              refine z_aload_n 3 d_Mo_isOneCurve_80 rfl rfl ?_
              refine z_iload 1 d_Mo_isOneCurve_81 rfl ?_
              refine z_iload 0 d_Mo_isOneCurve_83 rfl ?_
              refine z_iconst (v := 1) d_Mo_isOneCurve_85 (by decide) ?_
              refine z_iadd d_Mo_isOneCurve_86 ?_
              refine z_iastN ((zu_n nab).trans zu_s) (show ct < 8 by omega) (by decide) d_Mo_isOneCurve_87 ?_
              refine z_geq (G' := zu (zu G a (zI d 8 (upd P2 ct (nI i + 1)))) b (zI d 8 N2)) (by rw [zu_comm nab.symm, zu_zu] <;> rfl) ?_
              refine z_aload_n 2 d_Mo_isOneCurve_88 rfl rfl ?_
              refine z_iload 1 d_Mo_isOneCurve_89 rfl ?_
              refine z_aload_n 5 d_Mo_isOneCurve_91 rfl rfl ?_
              refine z_get zc_MS 6 (by decide) qF_Mo_46 ((hMo _ _).se hsi).1 rfl d_Mo_isOneCurve_92 ?_
              refine z_iload 0 d_Mo_isOneCurve_95 rfl ?_
              refine z_ialdN ((hMo _ _).se hsi).2.1 (hi6) (by decide) d_Mo_isOneCurve_97 ?_
              refine z_iastN zu_s (show ct < 8 by omega) (by decide) d_Mo_isOneCurve_98 ?_
              refine z_one ?_
              refine z_iinc (v := nI (ct + 1)) (L' := [(4, _), (5, _), (3, _), (2, _), (0, _), (1, _)]) 1 d_Mo_isOneCurve_99 rfl (nI_1 ct) (by decide) rfl ?_
              refine z_iinc (v := nI (i + 1)) (L' := [(5, _), (4, _), (3, _), (2, _), (0, _), (1, _)]) 1 d_Mo_isOneCurve_102 rfl (nI_1 i) (by decide) rfl ?_
              refine z_goto 16 d_Mo_isOneCurve_105 (by decide) ?_
              first
                | exact ih_16 (i + 1) (ct + 1) _ _ (by omega) (by omega) (by omega)
                | exact ih_16 (i + 1) ct _ _ (by omega) (by omega) (by omega)
            · skip
              refine z_goto 102 d_Mo_isOneCurve_77 (by decide) ?_
              refine z_iinc (v := nI (i + 1)) (L' := [(5, _), (4, _), (3, _), (2, _), (0, _), (1, _)]) 0 d_Mo_isOneCurve_102 rfl (nI_1 i) (by decide) rfl ?_
              refine z_goto 16 d_Mo_isOneCurve_105 (by decide) ?_
              first
                | exact ih_16 (i + 1) (ct + 1) _ _ (by omega) (by omega) (by omega)
                | exact ih_16 (i + 1) ct _ _ (by omega) (by omega) (by omega)
          · skip
            refine z_aload_n 4 d_Mo_isOneCurve_44 rfl rfl ?_
            refine z_aload_n 3 d_Mo_isOneCurve_45 rfl rfl ?_
            refine z_aload_n 2 d_Mo_isOneCurve_46 rfl rfl ?_
            refine z_iload 1 d_Mo_isOneCurve_47 rfl ?_
            refine z_iload 0 d_Mo_isOneCurve_49 rfl ?_
            refine z_iconst (v := 1) d_Mo_isOneCurve_51 (by decide) ?_
            refine z_iadd d_Mo_isOneCurve_52 ?_
            refine z_callV0 (m_Mo_through hs0 hst (hMo _ _) ((zu_n nab).trans zu_s) zu_s (show ct ≤ 8 by omega) (by decide) (nI i + 1)) ym_Mo_through qM_Mo_84 qI_Mo_through qV_Mo_Mo_through zc_Mo (hMo _ _).mo d_Mo_isOneCurve_53 rfl (Nat.le_of_ble_eq_true rfl) ⟨by decide, by decide⟩ ⟨Nat.le_of_ble_eq_true rfl, Nat.le_of_ble_eq_true rfl⟩ ?_
            refine z_aload_n 5 d_Mo_isOneCurve_56 rfl rfl ?_
            refine z_get zc_MS 6 (by decide) qF_Mo_46 ((hMo _ _).se hsi).1 rfl d_Mo_isOneCurve_57 ?_
            refine z_iload 0 d_Mo_isOneCurve_60 rfl ?_
            refine z_ialdN ((hMo _ _).se hsi).2.1 (hi6) (by decide) d_Mo_isOneCurve_62 ?_
            refine z_icmp_eq 68 d_Mo_isOneCurve_63 (by decide) (fun c_63 => ?_) (fun c_63 => ?_)
            · skip
              refine z_iload 1 d_Mo_isOneCurve_68 rfl ?_
              refine z_aload_n 5 d_Mo_isOneCurve_70 rfl rfl ?_
              refine z_get zc_MS 0 (by decide) qF_Mo_69 ((hMo _ _).se hsi).1 rfl d_Mo_isOneCurve_71 ?_
              refine z_icmp_ne 80 d_Mo_isOneCurve_74 (by decide) (fun c_74 => ?_) (fun c_74 => ?_)
              · skip
                refine z_aload_n 3 d_Mo_isOneCurve_80 rfl rfl ?_
                refine z_iload 1 d_Mo_isOneCurve_81 rfl ?_
                refine z_iload 0 d_Mo_isOneCurve_83 rfl ?_
                refine z_iconst (v := 1) d_Mo_isOneCurve_85 (by decide) ?_
                refine z_iadd d_Mo_isOneCurve_86 ?_
                refine z_iastN ((zu_n nab).trans zu_s) (show ct < 8 by omega) (by decide) d_Mo_isOneCurve_87 ?_
                refine z_geq (G' := zu (zu G a (zI d 8 (upd P2 ct (nI i + 1)))) b (zI d 8 N2)) (by rw [zu_comm nab.symm, zu_zu] <;> rfl) ?_
                refine z_aload_n 2 d_Mo_isOneCurve_88 rfl rfl ?_
                refine z_iload 1 d_Mo_isOneCurve_89 rfl ?_
                refine z_aload_n 5 d_Mo_isOneCurve_91 rfl rfl ?_
                refine z_get zc_MS 6 (by decide) qF_Mo_46 ((hMo _ _).se hsi).1 rfl d_Mo_isOneCurve_92 ?_
                refine z_iload 0 d_Mo_isOneCurve_95 rfl ?_
                refine z_ialdN ((hMo _ _).se hsi).2.1 (hi6) (by decide) d_Mo_isOneCurve_97 ?_
                refine z_iastN zu_s (show ct < 8 by omega) (by decide) d_Mo_isOneCurve_98 ?_
                refine z_one ?_
                refine z_iinc (v := nI (ct + 1)) (L' := [(4, _), (5, _), (3, _), (2, _), (0, _), (1, _)]) 1 d_Mo_isOneCurve_99 rfl (nI_1 ct) (by decide) rfl ?_
                refine z_iinc (v := nI (i + 1)) (L' := [(5, _), (4, _), (3, _), (2, _), (0, _), (1, _)]) 1 d_Mo_isOneCurve_102 rfl (nI_1 i) (by decide) rfl ?_
                refine z_goto 16 d_Mo_isOneCurve_105 (by decide) ?_
                first
                  | exact ih_16 (i + 1) (ct + 1) _ _ (by omega) (by omega) (by omega)
                  | exact ih_16 (i + 1) ct _ _ (by omega) (by omega) (by omega)
              · skip
                refine z_goto 102 d_Mo_isOneCurve_77 (by decide) ?_
                refine z_iinc (v := nI (i + 1)) (L' := [(5, _), (4, _), (3, _), (2, _), (0, _), (1, _)]) 0 d_Mo_isOneCurve_102 rfl (nI_1 i) (by decide) rfl ?_
                refine z_goto 16 d_Mo_isOneCurve_105 (by decide) ?_
                first
                  | exact ih_16 (i + 1) (ct + 1) _ _ (by omega) (by omega) (by omega)
                  | exact ih_16 (i + 1) ct _ _ (by omega) (by omega) (by omega)
            · skip
              refine z_iconst (v := 0) d_Mo_isOneCurve_66 (by decide) ?_
              exact z_zret rfl (by first | rfl | exact zb_nar _) (⟨⟨false, rfl⟩, V, hMo _ _, zKp.rf, (zFr.new ha).nw hb0⟩) (by first | decide | omega) (by first | decide | omega) d_Mo_isOneCurve_67
        · skip
          refine z_goto 102 d_Mo_isOneCurve_32 (by decide) ?_
          refine z_iinc (v := nI (i + 1)) (L' := [(5, _), (4, _), (3, _), (2, _), (0, _), (1, _)]) 0 d_Mo_isOneCurve_102 rfl (nI_1 i) (by decide) rfl ?_
          refine z_goto 16 d_Mo_isOneCurve_105 (by decide) ?_
          first
            | exact ih_16 (i + 1) (ct + 1) _ _ (by omega) (by omega) (by omega)
            | exact ih_16 (i + 1) ct _ _ (by omega) (by omega) (by omega)
  exact key_16 9 0 0 _ _ (by omega) (by omega) (by omega)
theorem d_Mo_isSoundNow_0 : decode c_Mo_isSoundNow 0 = .ok (.iconst 0, 1) := by decide +kernel
theorem d_Mo_isSoundNow_1 : decode c_Mo_isSoundNow 1 = .ok (.istore_n 1, 1) := by decide +kernel
theorem d_Mo_isSoundNow_2 : decode c_Mo_isSoundNow 2 = .ok (.iload_n 1, 1) := by decide +kernel
theorem d_Mo_isSoundNow_3 : decode c_Mo_isSoundNow 3 = .ok (.aload_n 0, 1) := by decide +kernel
theorem d_Mo_isSoundNow_4 : decode c_Mo_isSoundNow 4 = .ok (.getfield 20, 3) := by decide +kernel
theorem d_Mo_isSoundNow_7 : decode c_Mo_isSoundNow 7 = .ok (.invokeinterface 94 1, 5) := by decide +kernel
theorem d_Mo_isSoundNow_12 : decode c_Mo_isSoundNow 12 = .ok (.if_icmp .ge 84, 3) := by decide +kernel
theorem d_Mo_isSoundNow_15 : decode c_Mo_isSoundNow 15 = .ok (.aload_n 0, 1) := by decide +kernel
theorem d_Mo_isSoundNow_16 : decode c_Mo_isSoundNow 16 = .ok (.getfield 20, 3) := by decide +kernel
theorem d_Mo_isSoundNow_19 : decode c_Mo_isSoundNow 19 = .ok (.iload_n 1, 1) := by decide +kernel
theorem d_Mo_isSoundNow_20 : decode c_Mo_isSoundNow 20 = .ok (.invokeinterface 51 2, 5) := by decide +kernel
theorem d_Mo_isSoundNow_25 : decode c_Mo_isSoundNow 25 = .ok (.checkcast 47, 3) := by decide +kernel
theorem d_Mo_isSoundNow_28 : decode c_Mo_isSoundNow 28 = .ok (.astore_n 2, 1) := by decide +kernel
theorem d_Mo_isSoundNow_29 : decode c_Mo_isSoundNow 29 = .ok (.aload_n 2, 1) := by decide +kernel
theorem d_Mo_isSoundNow_30 : decode c_Mo_isSoundNow 30 = .ok (.getfield 165, 3) := by decide +kernel
theorem d_Mo_isSoundNow_33 : decode c_Mo_isSoundNow 33 = .ok (.ifCond .ne 13, 3) := by decide +kernel
theorem d_Mo_isSoundNow_36 : decode c_Mo_isSoundNow 36 = .ok (.aload_n 0, 1) := by decide +kernel
theorem d_Mo_isSoundNow_37 : decode c_Mo_isSoundNow 37 = .ok (.aload_n 2, 1) := by decide +kernel
theorem d_Mo_isSoundNow_38 : decode c_Mo_isSoundNow 38 = .ok (.invokevirtual 259, 3) := by decide +kernel
theorem d_Mo_isSoundNow_41 : decode c_Mo_isSoundNow 41 = .ok (.ifCond .ne 5, 3) := by decide +kernel
theorem d_Mo_isSoundNow_44 : decode c_Mo_isSoundNow 44 = .ok (.iconst 0, 1) := by decide +kernel
theorem d_Mo_isSoundNow_45 : decode c_Mo_isSoundNow 45 = .ok (.ireturn, 1) := by decide +kernel
theorem d_Mo_isSoundNow_46 : decode c_Mo_isSoundNow 46 = .ok (.iconst 0, 1) := by decide +kernel
theorem d_Mo_isSoundNow_47 : decode c_Mo_isSoundNow 47 = .ok (.istore_n 3, 1) := by decide +kernel
theorem d_Mo_isSoundNow_48 : decode c_Mo_isSoundNow 48 = .ok (.iload_n 3, 1) := by decide +kernel
theorem d_Mo_isSoundNow_49 : decode c_Mo_isSoundNow 49 = .ok (.bipush 8, 2) := by decide +kernel
theorem d_Mo_isSoundNow_51 : decode c_Mo_isSoundNow 51 = .ok (.if_icmp .ge 39, 3) := by decide +kernel
theorem d_Mo_isSoundNow_54 : decode c_Mo_isSoundNow 54 = .ok (.aload_n 2, 1) := by decide +kernel
theorem d_Mo_isSoundNow_55 : decode c_Mo_isSoundNow 55 = .ok (.getfield 140, 3) := by decide +kernel
theorem d_Mo_isSoundNow_58 : decode c_Mo_isSoundNow 58 = .ok (.iload_n 3, 1) := by decide +kernel
theorem d_Mo_isSoundNow_59 : decode c_Mo_isSoundNow 59 = .ok (.iaload, 1) := by decide +kernel
theorem d_Mo_isSoundNow_60 : decode c_Mo_isSoundNow 60 = .ok (.aload_n 2, 1) := by decide +kernel
theorem d_Mo_isSoundNow_61 : decode c_Mo_isSoundNow 61 = .ok (.getfield 153, 3) := by decide +kernel
theorem d_Mo_isSoundNow_64 : decode c_Mo_isSoundNow 64 = .ok (.if_icmp .gt 18, 3) := by decide +kernel
theorem d_Mo_isSoundNow_67 : decode c_Mo_isSoundNow 67 = .ok (.aload_n 2, 1) := by decide +kernel
theorem d_Mo_isSoundNow_68 : decode c_Mo_isSoundNow 68 = .ok (.getfield 46, 3) := by decide +kernel
theorem d_Mo_isSoundNow_71 : decode c_Mo_isSoundNow 71 = .ok (.iload_n 3, 1) := by decide +kernel
theorem d_Mo_isSoundNow_72 : decode c_Mo_isSoundNow 72 = .ok (.iaload, 1) := by decide +kernel
theorem d_Mo_isSoundNow_73 : decode c_Mo_isSoundNow 73 = .ok (.iconst (-1), 1) := by decide +kernel
theorem d_Mo_isSoundNow_74 : decode c_Mo_isSoundNow 74 = .ok (.bipush 96, 2) := by decide +kernel
theorem d_Mo_isSoundNow_76 : decode c_Mo_isSoundNow 76 = .ok (.invokestatic 115, 3) := by decide +kernel
theorem d_Mo_isSoundNow_79 : decode c_Mo_isSoundNow 79 = .ok (.ifCond .ne 5, 3) := by decide +kernel
theorem d_Mo_isSoundNow_82 : decode c_Mo_isSoundNow 82 = .ok (.iconst 0, 1) := by decide +kernel
theorem d_Mo_isSoundNow_83 : decode c_Mo_isSoundNow 83 = .ok (.ireturn, 1) := by decide +kernel
theorem d_Mo_isSoundNow_84 : decode c_Mo_isSoundNow 84 = .ok (.iinc 3 1, 3) := by decide +kernel
theorem d_Mo_isSoundNow_87 : decode c_Mo_isSoundNow 87 = .ok (.goto (-39), 3) := by decide +kernel
theorem d_Mo_isSoundNow_90 : decode c_Mo_isSoundNow 90 = .ok (.iinc 1 1, 3) := by decide +kernel
theorem d_Mo_isSoundNow_93 : decode c_Mo_isSoundNow 93 = .ok (.goto (-91), 3) := by decide +kernel
theorem d_Mo_isSoundNow_96 : decode c_Mo_isSoundNow 96 = .ok (.iconst 0, 1) := by decide +kernel
theorem d_Mo_isSoundNow_97 : decode c_Mo_isSoundNow 97 = .ok (.istore_n 1, 1) := by decide +kernel
theorem d_Mo_isSoundNow_98 : decode c_Mo_isSoundNow 98 = .ok (.iload_n 1, 1) := by decide +kernel
theorem d_Mo_isSoundNow_99 : decode c_Mo_isSoundNow 99 = .ok (.aload_n 0, 1) := by decide +kernel
theorem d_Mo_isSoundNow_100 : decode c_Mo_isSoundNow 100 = .ok (.getfield 16, 3) := by decide +kernel
theorem d_Mo_isSoundNow_103 : decode c_Mo_isSoundNow 103 = .ok (.invokeinterface 94 1, 5) := by decide +kernel
theorem d_Mo_isSoundNow_108 : decode c_Mo_isSoundNow 108 = .ok (.if_icmp .ge 36, 3) := by decide +kernel
theorem d_Mo_isSoundNow_111 : decode c_Mo_isSoundNow 111 = .ok (.aload_n 0, 1) := by decide +kernel
theorem d_Mo_isSoundNow_112 : decode c_Mo_isSoundNow 112 = .ok (.getfield 16, 3) := by decide +kernel
theorem d_Mo_isSoundNow_115 : decode c_Mo_isSoundNow 115 = .ok (.iload_n 1, 1) := by decide +kernel
theorem d_Mo_isSoundNow_116 : decode c_Mo_isSoundNow 116 = .ok (.invokeinterface 51 2, 5) := by decide +kernel
theorem d_Mo_isSoundNow_121 : decode c_Mo_isSoundNow 121 = .ok (.checkcast 57, 3) := by decide +kernel
theorem d_Mo_isSoundNow_124 : decode c_Mo_isSoundNow 124 = .ok (.getfield 59, 3) := by decide +kernel
theorem d_Mo_isSoundNow_127 : decode c_Mo_isSoundNow 127 = .ok (.iconst 0, 1) := by decide +kernel
theorem d_Mo_isSoundNow_128 : decode c_Mo_isSoundNow 128 = .ok (.bipush 96, 2) := by decide +kernel
theorem d_Mo_isSoundNow_130 : decode c_Mo_isSoundNow 130 = .ok (.invokestatic 115, 3) := by decide +kernel
theorem d_Mo_isSoundNow_133 : decode c_Mo_isSoundNow 133 = .ok (.ifCond .ne 5, 3) := by decide +kernel
theorem d_Mo_isSoundNow_136 : decode c_Mo_isSoundNow 136 = .ok (.iconst 0, 1) := by decide +kernel
theorem d_Mo_isSoundNow_137 : decode c_Mo_isSoundNow 137 = .ok (.ireturn, 1) := by decide +kernel
theorem d_Mo_isSoundNow_138 : decode c_Mo_isSoundNow 138 = .ok (.iinc 1 1, 3) := by decide +kernel
theorem d_Mo_isSoundNow_141 : decode c_Mo_isSoundNow 141 = .ok (.goto (-43), 3) := by decide +kernel
theorem d_Mo_isSoundNow_144 : decode c_Mo_isSoundNow 144 = .ok (.aload_n 0, 1) := by decide +kernel
theorem d_Mo_isSoundNow_145 : decode c_Mo_isSoundNow 145 = .ok (.getfield 23, 3) := by decide +kernel
theorem d_Mo_isSoundNow_148 : decode c_Mo_isSoundNow 148 = .ok (.invokeinterface 94 1, 5) := by decide +kernel
theorem d_Mo_isSoundNow_153 : decode c_Mo_isSoundNow 153 = .ok (.bipush 64, 2) := by decide +kernel
theorem d_Mo_isSoundNow_155 : decode c_Mo_isSoundNow 155 = .ok (.if_icmp .gt 7, 3) := by decide +kernel
theorem d_Mo_isSoundNow_158 : decode c_Mo_isSoundNow 158 = .ok (.iconst 1, 1) := by decide +kernel
theorem d_Mo_isSoundNow_159 : decode c_Mo_isSoundNow 159 = .ok (.goto 4, 3) := by decide +kernel
theorem d_Mo_isSoundNow_162 : decode c_Mo_isSoundNow 162 = .ok (.iconst 0, 1) := by decide +kernel
theorem d_Mo_isSoundNow_163 : decode c_Mo_isSoundNow 163 = .ok (.ireturn, 1) := by decide +kernel
set_option maxHeartbeats 4000000 in
set_option maxRecDepth 100000 in
theorem m_Mo_isSoundNow {g0 : State} {d : zD} {l : Launch} {a0 : Array Value} (hs0 : zS0 d a0 g0) (hst : l.stackTraces = false) {G : zG} {B : Nat → Nat} {V : Nat → Nat → Int32} {nk ns ne ec : Nat} (hM : zM d B V nk ns ne ec G) : zMet g0 d l y_Mo_isSoundNow c_Mo_isSoundNow 4 ((Option.some Jvm.ClassFile.FieldType.boolean)) 11 12 96 [.ref (B 0)] (G) (mTs d B nk ns ne ec V G zrB) (zNo) := by
  have hnk : nk ≤ 8 := hM.2.1
  have hns : ns ≤ 6 := hM.2.2.1
  have hne : ne ≤ 64 := hM.2.2.2.1
  have hp2 : 2 ^ nk ≤ 256 := Nat.pow_le_pow_right (n := 2) (by decide) hnk
  refine z_entry hs0 hst (by decide) (Nat.le_of_ble_eq_true rfl) (fun p e s m args below meth c => ?_)
  refine z_iconst (v := (nI 0)) d_Mo_isSoundNow_0 (by decide) ?_
  refine z_istore_n (L' := [(1, _), (0, _)]) d_Mo_isSoundNow_1 rfl (by decide) rfl ?_
  have key_2 : ∀ (n : Nat) (i : Nat) (G2 : zG) (V2 : Nat → Nat → Int32), ns - i < n → (i ≤ ns) → (zM d B V2 nk ns ne ec G2) → (zKp msc V V2) → (mFr B nk ns ne G G2) → Z g0 d y_Mo_isSoundNow c_Mo_isSoundNow 4 ((Option.some Jvm.ClassFile.FieldType.boolean)) [] p l e (zR 11 12 96) s m args below meth c (vx_MQ below (zQc g0 d (mTs d B nk ns ne ec V G zrB)) (zXc g0 d (zNo)) args s 12 96 (zA g0)) (2 * i) (16 * i) (G2) [(1, .int (nI i)), (0, .ref (B 0))] [] 2 := by
    intro n
    induction n with
    | zero => intro i G2 V2 h0; exact absurd h0 (Nat.not_lt_zero _)
    | succ n ih_2 =>
      intro i G2 V2 hm_2 hi hM2 hK2 hF2
      refine z_iload_n 0 d_Mo_isSoundNow_2 rfl rfl ?_
      refine z_aload_n 1 d_Mo_isSoundNow_3 rfl rfl ?_
      refine z_get zc_Mo 7 (by decide) qF_Mo_20 hM2.mo rfl d_Mo_isSoundNow_4 ?_
      refine z_callF0 (m_AL_size hs0 hst hM2.sl) ym_AL_size zF_AL_size qM_Mo_94 zc_AL hM2.sl d_Mo_isSoundNow_7 rfl (Nat.le_of_ble_eq_true rfl) ⟨by show _ ≤ 12; omega, by show _ ≤ 96; omega⟩ ⟨Nat.le_of_ble_eq_true rfl, Nat.le_of_ble_eq_true rfl⟩ ?_
      refine z_icmp_ge 96 d_Mo_isSoundNow_12 (by decide) (fun c_12 => ?_) (fun c_12 => ?_)
      · skip
        refine z_iconst (v := (nI 0)) d_Mo_isSoundNow_96 (by decide) ?_
        refine z_istore_n (L' := [(1, _), (0, _)]) d_Mo_isSoundNow_97 rfl (by decide) rfl ?_
        have key_98 : ∀ (n : Nat) (j : Nat), nk - j < n → (j ≤ nk) → Z g0 d y_Mo_isSoundNow c_Mo_isSoundNow 4 ((Option.some Jvm.ClassFile.FieldType.boolean)) [] p l e (zR 11 12 96) s m args below meth c (vx_MQ below (zQc g0 d (mTs d B nk ns ne ec V G zrB)) (zXc g0 d (zNo)) args s 12 96 (zA g0)) (2 * i) (16 * i) (G2) [(1, .int (nI j)), (0, .ref (B 0))] [] 98 := by
          intro n
          induction n with
          | zero => intro j h0; exact absurd h0 (Nat.not_lt_zero _)
          | succ n ih_98 =>
            intro j hm_98 hj
            refine z_iload_n 0 d_Mo_isSoundNow_98 rfl rfl ?_
            refine z_aload_n 1 d_Mo_isSoundNow_99 rfl rfl ?_
            refine z_get zc_Mo 6 (by decide) qF_Mo_16 hM2.mo rfl d_Mo_isSoundNow_100 ?_
            refine z_callF0 (m_AL_size hs0 hst hM2.kl) ym_AL_size zF_AL_size qM_Mo_94 zc_AL hM2.kl d_Mo_isSoundNow_103 rfl (Nat.le_of_ble_eq_true rfl) ⟨by show _ ≤ 12; omega, by show _ ≤ 96; omega⟩ ⟨Nat.le_of_ble_eq_true rfl, Nat.le_of_ble_eq_true rfl⟩ ?_
            refine z_icmp_ge 144 d_Mo_isSoundNow_108 (by decide) (fun c_108 => ?_) (fun c_108 => ?_)
            · skip
              refine z_aload_n 1 d_Mo_isSoundNow_144 rfl rfl ?_
              refine z_get zc_Mo 8 (by decide) qF_Mo_23 hM2.mo rfl d_Mo_isSoundNow_145 ?_
              refine z_callF0 (m_AL_size hs0 hst hM2.el) ym_AL_size zF_AL_size qM_Mo_94 zc_AL hM2.el d_Mo_isSoundNow_148 rfl (Nat.le_of_ble_eq_true rfl) ⟨by show _ ≤ 12; omega, by show _ ≤ 96; omega⟩ ⟨Nat.le_of_ble_eq_true rfl, Nat.le_of_ble_eq_true rfl⟩ ?_
              refine z_bipush (v := 64) d_Mo_isSoundNow_153 (by decide) ?_
              refine z_icmp_gt 162 d_Mo_isSoundNow_155 (by decide) (fun c_155 => ?_) (fun c_155 => ?_)
              · skip
                refine z_iconst (v := 0) d_Mo_isSoundNow_162 (by decide) ?_
                exact z_zret rfl (by first | rfl | exact zb_nar _) (by first | exact ⟨⟨true, rfl⟩, V2, hM2, hK2, hF2⟩ | exact ⟨⟨false, rfl⟩, V2, hM2, hK2, hF2⟩) (by first | decide | omega) (by first | decide | omega) d_Mo_isSoundNow_163
              · skip
                refine z_iconst (v := 1) d_Mo_isSoundNow_158 (by decide) ?_
                refine z_goto 163 d_Mo_isSoundNow_159 (by decide) ?_
                exact z_zret rfl (by first | rfl | exact zb_nar _) (by first | exact ⟨⟨true, rfl⟩, V2, hM2, hK2, hF2⟩ | exact ⟨⟨false, rfl⟩, V2, hM2, hK2, hF2⟩) (by first | decide | omega) (by first | decide | omega) d_Mo_isSoundNow_163
            · skip
              have hj6 : j < nk := Nat.lt_of_not_le fun q => c_108 (nI_le q (by omega))
              refine z_aload_n 1 d_Mo_isSoundNow_111 rfl rfl ?_
              refine z_get zc_Mo 6 (by decide) qF_Mo_16 hM2.mo rfl d_Mo_isSoundNow_112 ?_
              refine z_iload_n 0 d_Mo_isSoundNow_115 rfl rfl ?_
              refine z_callF0 (m_AL_get hs0 hst (hM2.kA hj6) hj6 (if_pos hj6)) ym_AL_get zF_AL_get qM_Mo_51 zc_AL (hM2.kA hj6).1 d_Mo_isSoundNow_116 rfl (Nat.le_of_ble_eq_true rfl) ⟨by show _ ≤ 12; omega, by show _ ≤ 96; omega⟩ ⟨Nat.le_of_ble_eq_true rfl, Nat.le_of_ble_eq_true rfl⟩ ?_
              refine z_castS zc_MK qK_Mo_57 (hM2.ke hj6) d_Mo_isSoundNow_121 ?_
              refine z_get zc_MK 3 (by decide) qF_Mo_59 (hM2.ke hj6) rfl d_Mo_isSoundNow_124 ?_
              refine z_iconst (v := 0) d_Mo_isSoundNow_127 (by decide) ?_
              refine z_bipush (v := 96) d_Mo_isSoundNow_128 (by decide) ?_
              refine z_callS0 (m_Mo_in hs0 hst _ 0 96) ym_Mo_in qM_Mo_115 qS_Mo_in d_Mo_isSoundNow_130 rfl (Nat.le_of_ble_eq_true rfl) ⟨by show _ ≤ 12; omega, by show _ ≤ 96; omega⟩ ⟨Nat.le_of_ble_eq_true rfl, Nat.le_of_ble_eq_true rfl⟩ ?_
              refine z_if_ne 138 d_Mo_isSoundNow_133 (by decide) (fun c_133 => ?_) (fun c_133 => ?_)
              · skip
                refine z_iinc (v := nI (j + 1)) (L' := [(1, _), (0, _)]) 0 d_Mo_isSoundNow_138 rfl (nI_1 j) (by decide) rfl ?_
                refine z_goto 98 d_Mo_isSoundNow_141 (by decide) ?_
                exact ih_98 (j + 1) (by omega) (by omega)
              · skip
                refine z_iconst (v := 0) d_Mo_isSoundNow_136 (by decide) ?_
                exact z_zret rfl (by first | rfl | exact zb_nar _) (⟨⟨false, rfl⟩, V2, hM2, hK2, hF2⟩) (by first | decide | omega) (by first | decide | omega) d_Mo_isSoundNow_137
        exact key_98 (nk + 1) 0 (by omega) (by omega)
      · skip
        have hi6 : i < ns := Nat.lt_of_not_le fun q => c_12 (nI_le q (by omega))
        refine z_aload_n 1 d_Mo_isSoundNow_15 rfl rfl ?_
        refine z_get zc_Mo 7 (by decide) qF_Mo_20 hM2.mo rfl d_Mo_isSoundNow_16 ?_
        refine z_iload_n 0 d_Mo_isSoundNow_19 rfl rfl ?_
        refine z_callF0 (m_AL_get hs0 hst (hM2.sA hi6) hi6 (if_pos hi6)) ym_AL_get zF_AL_get qM_Mo_51 zc_AL (hM2.sA hi6).1 d_Mo_isSoundNow_20 rfl (Nat.le_of_ble_eq_true rfl) ⟨by show _ ≤ 12; omega, by show _ ≤ 96; omega⟩ ⟨Nat.le_of_ble_eq_true rfl, Nat.le_of_ble_eq_true rfl⟩ ?_
        refine z_castS zc_MS qK_Mo_47 (hM2.se hi6).1 d_Mo_isSoundNow_25 ?_
        refine z_astore_n (L' := [(2, _), (1, _), (0, _)]) d_Mo_isSoundNow_28 rfl (by decide) rfl ?_
        refine z_aload_n 0 d_Mo_isSoundNow_29 rfl rfl ?_
        refine z_get zc_MS 5 (by decide) qF_Mo_165 (hM2.se hi6).1 rfl d_Mo_isSoundNow_30 ?_
        refine z_if_ne 46 d_Mo_isSoundNow_33 (by decide) (fun c_33 => ?_) (fun c_33 => ?_)
        · skip
          refine z_iconst (v := (nI 0)) d_Mo_isSoundNow_46 (by decide) ?_
          refine z_istore_n (L' := [(3, _), (2, _), (1, _), (0, _)]) d_Mo_isSoundNow_47 rfl (by decide) rfl ?_
          have key_48 : ∀ (n : Nat) (j : Nat) (G3 : zG) (V3 : Nat → Nat → Int32), 8 - j < n → (j ≤ 8) → (zM d B V3 nk ns ne ec G3) → (zKp msc V V3) → (mFr B nk ns ne G G3) → Z g0 d y_Mo_isSoundNow c_Mo_isSoundNow 4 ((Option.some Jvm.ClassFile.FieldType.boolean)) [] p l e (zR 11 12 96) s m args below meth c (vx_MQ below (zQc g0 d (mTs d B nk ns ne ec V G zrB)) (zXc g0 d (zNo)) args s 12 96 (zA g0)) (2 * (i + 1)) (16 * (i + 1)) (G3) [(3, .int (nI j)), (2, .ref (B (200 + i))), (1, .int (nI i)), (0, .ref (B 0))] [] 48 := by
            intro n
            induction n with
            | zero => intro j G3 V3 h0; exact absurd h0 (Nat.not_lt_zero _)
            | succ n ih_48 =>
              intro j G3 V3 hm_48 hj hM3 hK3 hF3
              refine z_iload_n 0 d_Mo_isSoundNow_48 rfl rfl ?_
              refine z_bipush (v := 8) d_Mo_isSoundNow_49 (by decide) ?_
              refine z_icmp_ge 90 d_Mo_isSoundNow_51 (by decide) (fun c_51 => ?_) (fun c_51 => ?_)
              · skip
                refine z_iinc (v := nI (i + 1)) (L' := [(1, _), (3, _), (2, _), (0, _)]) 2 d_Mo_isSoundNow_90 rfl (nI_1 i) (by decide) rfl ?_
                refine z_goto 2 d_Mo_isSoundNow_93 (by decide) ?_
                refine z_sub (L' := [(1, _), (0, _)]) [0, 3] rfl ?_
                exact ih_2 (i + 1) _ _ (by omega) (by omega) hM3 hK3 hF3
              · skip
                have hj8 : j < 8 := Nat.lt_of_not_le fun q => c_51 (nI_le (a := 8) (b := j) q (by omega))
                refine z_aload_n 1 d_Mo_isSoundNow_54 rfl rfl ?_
                refine z_get zc_MS 7 (by decide) qF_Mo_140 (hM3.se hi6).1 rfl d_Mo_isSoundNow_55 ?_
                refine z_iload_n 0 d_Mo_isSoundNow_58 rfl rfl ?_
                refine z_ialdN (hM3.se hi6).2.2.1 (hj8) (by decide) d_Mo_isSoundNow_59 ?_
                refine z_aload_n 1 d_Mo_isSoundNow_60 rfl rfl ?_
                refine z_get zc_MS 3 (by decide) qF_Mo_153 (hM3.se hi6).1 rfl d_Mo_isSoundNow_61 ?_
                refine z_icmp_gt 82 d_Mo_isSoundNow_64 (by decide) (fun c_64 => ?_) (fun c_64 => ?_)
                · skip
                  refine z_iconst (v := 0) d_Mo_isSoundNow_82 (by decide) ?_
                  exact z_zret rfl (by first | rfl | exact zb_nar _) (⟨⟨false, rfl⟩, V3, hM3, hK3, hF3⟩) (by first | decide | omega) (by first | decide | omega) d_Mo_isSoundNow_83
                · skip
                  refine z_aload_n 1 d_Mo_isSoundNow_67 rfl rfl ?_
                  refine z_get zc_MS 6 (by decide) qF_Mo_46 (hM3.se hi6).1 rfl d_Mo_isSoundNow_68 ?_
                  refine z_iload_n 0 d_Mo_isSoundNow_71 rfl rfl ?_
                  refine z_ialdN (hM3.se hi6).2.1 (hj8) (by decide) d_Mo_isSoundNow_72 ?_
                  refine z_iconst (v := (-1)) d_Mo_isSoundNow_73 (by decide) ?_
                  refine z_bipush (v := 96) d_Mo_isSoundNow_74 (by decide) ?_
                  refine z_callS0 (m_Mo_in hs0 hst _ (-1) 96) ym_Mo_in qM_Mo_115 qS_Mo_in d_Mo_isSoundNow_76 rfl (Nat.le_of_ble_eq_true rfl) ⟨by show _ ≤ 12; omega, by show _ ≤ 96; omega⟩ ⟨Nat.le_of_ble_eq_true rfl, Nat.le_of_ble_eq_true rfl⟩ ?_
                  refine z_if_ne 84 d_Mo_isSoundNow_79 (by decide) (fun c_79 => ?_) (fun c_79 => ?_)
                  · skip
                    refine z_iinc (v := nI (j + 1)) (L' := [(3, _), (2, _), (1, _), (0, _)]) 0 d_Mo_isSoundNow_84 rfl (nI_1 j) (by decide) rfl ?_
                    refine z_goto 48 d_Mo_isSoundNow_87 (by decide) ?_
                    exact ih_48 (j + 1) _ _ (by omega) (by omega) hM3 hK3 hF3
                  · skip
                    refine z_iconst (v := 0) d_Mo_isSoundNow_82 (by decide) ?_
                    exact z_zret rfl (by first | rfl | exact zb_nar _) (⟨⟨false, rfl⟩, V3, hM3, hK3, hF3⟩) (by first | decide | omega) (by first | decide | omega) d_Mo_isSoundNow_83
          refine z_widen (k := 2 * (i + 1)) (n := 16 * (i + 1)) (by omega) (by omega) ?_
          exact key_48 9 0 _ _ (by omega) (by omega) (by first | exact hM3 | exact hM2) (by first | exact hK3 | exact hK2) (by first | exact hF3 | exact hF2)
        · skip
          refine z_aload_n 2 d_Mo_isSoundNow_36 rfl rfl ?_
          refine z_aload_n 0 d_Mo_isSoundNow_37 rfl rfl ?_
          refine z_callVp1 (m_Mo_isOneCurve hs0 hst hM2 hi6) ym_Mo_isOneCurve qM_Mo_259 qI_Mo_isOneCurve qV_Mo_Mo_isOneCurve zc_Mo hM2.mo d_Mo_isSoundNow_38 rfl (Nat.le_of_ble_eq_true rfl) ⟨by show _ ≤ 12; omega, by show _ ≤ 96; omega⟩ ⟨Nat.le_of_ble_eq_true rfl, Nat.le_of_ble_eq_true rfl⟩ (fun r_38 G_38 hp_38 => ?_)
          obtain ⟨⟨b_38, rfl⟩, V3, hM3, hK3, hF3⟩ := hp_38
          replace hK3 := hK2.tr hK3
          replace hF3 := hF2.tr hF3
          refine z_if_ne 46 d_Mo_isSoundNow_41 (by decide) (fun c_41 => ?_) (fun c_41 => ?_)
          · skip
            refine z_iconst (v := (nI 0)) d_Mo_isSoundNow_46 (by decide) ?_
            refine z_istore_n (L' := [(3, _), (2, _), (1, _), (0, _)]) d_Mo_isSoundNow_47 rfl (by decide) rfl ?_
            have key_48 : ∀ (n : Nat) (j : Nat) (G3 : zG) (V3 : Nat → Nat → Int32), 8 - j < n → (j ≤ 8) → (zM d B V3 nk ns ne ec G3) → (zKp msc V V3) → (mFr B nk ns ne G G3) → Z g0 d y_Mo_isSoundNow c_Mo_isSoundNow 4 ((Option.some Jvm.ClassFile.FieldType.boolean)) [] p l e (zR 11 12 96) s m args below meth c (vx_MQ below (zQc g0 d (mTs d B nk ns ne ec V G zrB)) (zXc g0 d (zNo)) args s 12 96 (zA g0)) (2 * (i + 1)) (16 * (i + 1)) (G3) [(3, .int (nI j)), (2, .ref (B (200 + i))), (1, .int (nI i)), (0, .ref (B 0))] [] 48 := by
              intro n
              induction n with
              | zero => intro j G3 V3 h0; exact absurd h0 (Nat.not_lt_zero _)
              | succ n ih_48 =>
                intro j G3 V3 hm_48 hj hM3 hK3 hF3
                refine z_iload_n 0 d_Mo_isSoundNow_48 rfl rfl ?_
                refine z_bipush (v := 8) d_Mo_isSoundNow_49 (by decide) ?_
                refine z_icmp_ge 90 d_Mo_isSoundNow_51 (by decide) (fun c_51 => ?_) (fun c_51 => ?_)
                · skip
                  refine z_iinc (v := nI (i + 1)) (L' := [(1, _), (3, _), (2, _), (0, _)]) 2 d_Mo_isSoundNow_90 rfl (nI_1 i) (by decide) rfl ?_
                  refine z_goto 2 d_Mo_isSoundNow_93 (by decide) ?_
                  refine z_sub (L' := [(1, _), (0, _)]) [0, 3] rfl ?_
                  exact ih_2 (i + 1) _ _ (by omega) (by omega) hM3 hK3 hF3
                · skip
                  have hj8 : j < 8 := Nat.lt_of_not_le fun q => c_51 (nI_le (a := 8) (b := j) q (by omega))
                  refine z_aload_n 1 d_Mo_isSoundNow_54 rfl rfl ?_
                  refine z_get zc_MS 7 (by decide) qF_Mo_140 (hM3.se hi6).1 rfl d_Mo_isSoundNow_55 ?_
                  refine z_iload_n 0 d_Mo_isSoundNow_58 rfl rfl ?_
                  refine z_ialdN (hM3.se hi6).2.2.1 (hj8) (by decide) d_Mo_isSoundNow_59 ?_
                  refine z_aload_n 1 d_Mo_isSoundNow_60 rfl rfl ?_
                  refine z_get zc_MS 3 (by decide) qF_Mo_153 (hM3.se hi6).1 rfl d_Mo_isSoundNow_61 ?_
                  refine z_icmp_gt 82 d_Mo_isSoundNow_64 (by decide) (fun c_64 => ?_) (fun c_64 => ?_)
                  · skip
                    refine z_iconst (v := 0) d_Mo_isSoundNow_82 (by decide) ?_
                    exact z_zret rfl (by first | rfl | exact zb_nar _) (⟨⟨false, rfl⟩, V3, hM3, hK3, hF3⟩) (by first | decide | omega) (by first | decide | omega) d_Mo_isSoundNow_83
                  · skip
                    refine z_aload_n 1 d_Mo_isSoundNow_67 rfl rfl ?_
                    refine z_get zc_MS 6 (by decide) qF_Mo_46 (hM3.se hi6).1 rfl d_Mo_isSoundNow_68 ?_
                    refine z_iload_n 0 d_Mo_isSoundNow_71 rfl rfl ?_
                    refine z_ialdN (hM3.se hi6).2.1 (hj8) (by decide) d_Mo_isSoundNow_72 ?_
                    refine z_iconst (v := (-1)) d_Mo_isSoundNow_73 (by decide) ?_
                    refine z_bipush (v := 96) d_Mo_isSoundNow_74 (by decide) ?_
                    refine z_callS0 (m_Mo_in hs0 hst _ (-1) 96) ym_Mo_in qM_Mo_115 qS_Mo_in d_Mo_isSoundNow_76 rfl (Nat.le_of_ble_eq_true rfl) ⟨by show _ ≤ 12; omega, by show _ ≤ 96; omega⟩ ⟨Nat.le_of_ble_eq_true rfl, Nat.le_of_ble_eq_true rfl⟩ ?_
                    refine z_if_ne 84 d_Mo_isSoundNow_79 (by decide) (fun c_79 => ?_) (fun c_79 => ?_)
                    · skip
                      refine z_iinc (v := nI (j + 1)) (L' := [(3, _), (2, _), (1, _), (0, _)]) 0 d_Mo_isSoundNow_84 rfl (nI_1 j) (by decide) rfl ?_
                      refine z_goto 48 d_Mo_isSoundNow_87 (by decide) ?_
                      exact ih_48 (j + 1) _ _ (by omega) (by omega) hM3 hK3 hF3
                    · skip
                      refine z_iconst (v := 0) d_Mo_isSoundNow_82 (by decide) ?_
                      exact z_zret rfl (by first | rfl | exact zb_nar _) (⟨⟨false, rfl⟩, V3, hM3, hK3, hF3⟩) (by first | decide | omega) (by first | decide | omega) d_Mo_isSoundNow_83
            refine z_widen (k := 2 * (i + 1)) (n := 16 * (i + 1)) (by omega) (by omega) ?_
            exact key_48 9 0 _ _ (by omega) (by omega) (by first | exact hM3 | exact hM2) (by first | exact hK3 | exact hK2) (by first | exact hF3 | exact hF2)
          · skip
            refine z_iconst (v := 0) d_Mo_isSoundNow_44 (by decide) ?_
            exact z_zret rfl (by first | rfl | exact zb_nar _) (⟨⟨false, rfl⟩, V3, hM3, hK3, hF3⟩) (by first | decide | omega) (by first | decide | omega) d_Mo_isSoundNow_45
  exact key_2 (ns + 1) 0 _ _ (by omega) (by omega) hM zKp.rf zFr.rf
