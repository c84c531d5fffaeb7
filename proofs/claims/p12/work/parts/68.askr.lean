set_option maxHeartbeats 4000000 in
set_option maxRecDepth 100000 in
theorem m_Mo_keeperNowE {g0 : State} {d : zD} {l : Launch} {a0 : Array Value} (hs0 : zS0 d a0 g0) (hst : l.stackTraces = false) {G : zG} {B : Nat → Nat} {V : Nat → Nat → Int32} {nk ns ne ec : Nat} (hM : zM d B V nk ns ne ec G) {ki : Nat} (hki : ki < nk) {w : Nat} (hw : w < 7) : zMet g0 d l y_Mo_keeperNow c_Mo_keeperNow 7 ((Option.some Jvm.ClassFile.FieldType.int)) 11 1 7 [.ref (B 0), .int (nI ki), .int (nI w)] (G) (fun r G1 => r = some (.int (mKeA V ns ki w)) ∧ zM d B V nk ns ne ec G1 ∧ mFr B nk ns ne G G1) (zNo) := by
  have hnk : nk ≤ 8 := hM.2.1
  have hns : ns ≤ 6 := hM.2.2.1
  have hne : ne ≤ 64 := hM.2.2.2.1
  have hp2 : 2 ^ nk ≤ 256 := Nat.pow_le_pow_right (n := 2) (by decide) hnk
  have hj : ki < 8 := by omega
  refine z_entry hs0 hst (by decide) (Nat.le_of_ble_eq_true rfl) (fun p e s m args below meth c => ?_)
  refine z_aload_n 0 d_Mo_keeperNow_0 rfl rfl ?_
  refine z_get zc_Mo 6 (by decide) qF_Mo_16 hM.mo rfl d_Mo_keeperNow_1 ?_
  refine z_iload_n 1 d_Mo_keeperNow_4 rfl rfl ?_
  refine z_callF0 (m_AL_get hs0 hst (hM.kA hki) hki (if_pos hki)) ym_AL_get zF_AL_get qM_Mo_51 zc_AL (hM.kA hki).1 d_Mo_keeperNow_5 rfl (Nat.le_of_ble_eq_true rfl) ⟨by decide, by decide⟩ ⟨Nat.le_of_ble_eq_true rfl, Nat.le_of_ble_eq_true rfl⟩ ?_
  refine z_castS zc_MK qK_Mo_57 (hM.ke hki) d_Mo_keeperNow_10 ?_
  refine z_astore_n (L' := [(3, _), (0, _), (1, _), (2, _)]) d_Mo_keeperNow_13 rfl (by decide) rfl ?_
  refine z_iconst (v := (nI 0)) d_Mo_keeperNow_14 (by decide) ?_
  refine z_istore (L' := [(4, _), (3, _), (0, _), (1, _), (2, _)]) d_Mo_keeperNow_15 (by decide) rfl ?_
  refine z_iconst (v := (nI 0)) d_Mo_keeperNow_17 (by decide) ?_
  refine z_istore (L' := [(5, _), (4, _), (3, _), (0, _), (1, _), (2, _)]) d_Mo_keeperNow_18 (by decide) rfl ?_
  refine z_iconst (v := (nI 0)) d_Mo_keeperNow_20 (by decide) ?_
  refine z_istore (L' := [(6, _), (5, _), (4, _), (3, _), (0, _), (1, _), (2, _)]) d_Mo_keeperNow_21 (by decide) rfl ?_
  have key_23 : ∀ (n : Nat) (i : Nat), ns - i < n → (i ≤ ns) → Z g0 d y_Mo_keeperNow c_Mo_keeperNow 7 ((Option.some Jvm.ClassFile.FieldType.int)) [] p l e (zR 11 1 7) s m args below meth c (vx_MQ below (zQc g0 d (fun r G1 => r = some (.int (mKeA V ns ki w)) ∧ zM d B V nk ns ne ec G1 ∧ mFr B nk ns ne G G1)) (zXc g0 d (zNo)) args s 1 7 (zA g0)) 0 0 (G) [(6, .int (nI i)), (5, .int (nI (zcnt (fun i => zst (V (300 + i)) (V (400 + i)) (V (200 + i) 3) ki) i))), (4, .int (nI (zcnt (fun i => decide (V (300 + i) ki ≠ -1)) i))), (3, .ref (B (100 + ki))), (0, .ref (B 0)), (1, .int (nI ki)), (2, .int (nI w))] [] 23 := by
    intro n
    induction n with
    | zero => intro i h0; exact absurd h0 (Nat.not_lt_zero _)
    | succ n ih_23 =>
      intro i hm_23 hi
      refine z_iload 0 d_Mo_keeperNow_23 rfl ?_
      refine z_aload_n 4 d_Mo_keeperNow_25 rfl rfl ?_
      refine z_get zc_Mo 7 (by decide) qF_Mo_20 hM.mo rfl d_Mo_keeperNow_26 ?_
      refine z_callF0 (m_AL_size hs0 hst hM.sl) ym_AL_size zF_AL_size qM_Mo_94 zc_AL hM.sl d_Mo_keeperNow_29 rfl (Nat.le_of_ble_eq_true rfl) ⟨by decide, by decide⟩ ⟨Nat.le_of_ble_eq_true rfl, Nat.le_of_ble_eq_true rfl⟩ ?_
      refine z_icmp_ge 107 d_Mo_keeperNow_34 (by decide) (fun c_34 => ?_) (fun c_34 => ?_)
      · skip
        obtain rfl : ns = i := by
          have := (nI_leI (a := ns) (b := i) (by omega) (by omega)).mp c_34
          omega
        refine z_bipush (v := 7) d_Mo_keeperNow_107 (by decide) ?_
        refine z_newaI 7 qA_int (by decide) rfl (by decide) ⟨by decide, by decide⟩ d_Mo_keeperNow_109 (fun a ha hab => ?_)
        have hMo : ∀ w, zM d B V nk ns ne ec (zu G a w) := fun w => hM.out (hM.nn_ ha)
        refine z_dup d_Mo_keeperNow_111 rfl ?_
        refine z_iconst (v := (nI 0)) d_Mo_keeperNow_112 (by decide) ?_
        refine z_aload_n 3 d_Mo_keeperNow_113 rfl rfl ?_
        refine z_get zc_MK 0 (by decide) qF_Mo_96 ((hMo _).ke hki) rfl d_Mo_keeperNow_114 ?_
        refine z_iastN zu_s (show 0 < 7 by decide) (by decide) d_Mo_keeperNow_117 ?_
        refine z_one ?_
        refine z_dup d_Mo_keeperNow_118 rfl ?_
        refine z_iconst (v := (nI 1)) d_Mo_keeperNow_119 (by decide) ?_
        refine z_aload_n 3 d_Mo_keeperNow_120 rfl rfl ?_
        refine z_get zc_MK 1 (by decide) qF_Mo_193 ((hMo _).ke hki) rfl d_Mo_keeperNow_121 ?_
        refine z_iastN zu_s (show 1 < 7 by decide) (by decide) d_Mo_keeperNow_124 ?_
        refine z_one ?_
        refine z_dup d_Mo_keeperNow_125 rfl ?_
        refine z_iconst (v := (nI 2)) d_Mo_keeperNow_126 (by decide) ?_
        refine z_aload_n 3 d_Mo_keeperNow_127 rfl rfl ?_
        refine z_get zc_MK 2 (by decide) qF_Mo_196 ((hMo _).ke hki) rfl d_Mo_keeperNow_128 ?_
        refine z_iastN zu_s (show 2 < 7 by decide) (by decide) d_Mo_keeperNow_131 ?_
        refine z_one ?_
        refine z_dup d_Mo_keeperNow_132 rfl ?_
        refine z_iconst (v := (nI 3)) d_Mo_keeperNow_133 (by decide) ?_
        refine z_aload_n 3 d_Mo_keeperNow_134 rfl rfl ?_
        refine z_get zc_MK 3 (by decide) qF_Mo_59 ((hMo _).ke hki) rfl d_Mo_keeperNow_135 ?_
        refine z_iastN zu_s (show 3 < 7 by decide) (by decide) d_Mo_keeperNow_138 ?_
        refine z_one ?_
        refine z_dup d_Mo_keeperNow_139 rfl ?_
        refine z_iconst (v := (nI 4)) d_Mo_keeperNow_140 (by decide) ?_
        refine z_aload_n 3 d_Mo_keeperNow_141 rfl rfl ?_
        refine z_get zc_MK 4 (by decide) qF_Mo_184 ((hMo _).ke hki) rfl d_Mo_keeperNow_142 ?_
        refine z_if_eq 152 d_Mo_keeperNow_145 (by decide) (fun c_145 => ?_) (fun c_145 => ?_)
        · skip
          refine z_iconst (v := 0) d_Mo_keeperNow_152 (by decide) ?_
          refine z_iastN zu_s (show 4 < 7 by decide) (by decide) d_Mo_keeperNow_153 ?_
          refine z_one ?_
          refine z_dup d_Mo_keeperNow_154 rfl ?_
          refine z_iconst (v := (nI 5)) d_Mo_keeperNow_155 (by decide) ?_
          refine z_iload 2 d_Mo_keeperNow_156 rfl ?_
          refine z_iastN zu_s (show 5 < 7 by decide) (by decide) d_Mo_keeperNow_158 ?_
          refine z_one ?_
          refine z_dup d_Mo_keeperNow_159 rfl ?_
          refine z_bipush (v := (nI 6)) d_Mo_keeperNow_160 (by decide) ?_
          refine z_iload 1 d_Mo_keeperNow_162 rfl ?_
          refine z_iastN zu_s (show 6 < 7 by decide) (by decide) d_Mo_keeperNow_164 ?_
          refine z_one ?_
          refine z_astore (L' := [(6, _), (5, _), (4, _), (3, _), (0, _), (1, _), (2, _)]) d_Mo_keeperNow_165 (by decide) rfl ?_
          refine z_aload 0 d_Mo_keeperNow_167 rfl ?_
          refine z_iload_n 6 d_Mo_keeperNow_169 rfl rfl ?_
          refine z_ialdN zu_s (hw) (by decide) d_Mo_keeperNow_170 ?_
          exact z_iret rfl (⟨by unfold mKeA; first | rw [if_pos c_145] | rw [if_neg c_145], hMo _, zFr.new ha⟩) (by first | decide | omega) (by first | decide | omega) d_Mo_keeperNow_171
        · skip
          refine z_iconst (v := 1) d_Mo_keeperNow_148 (by decide) ?_
          refine z_goto 153 d_Mo_keeperNow_149 (by decide) ?_
          refine z_iastN zu_s (show 4 < 7 by decide) (by decide) d_Mo_keeperNow_153 ?_
          refine z_one ?_
          refine z_dup d_Mo_keeperNow_154 rfl ?_
          refine z_iconst (v := (nI 5)) d_Mo_keeperNow_155 (by decide) ?_
          refine z_iload 2 d_Mo_keeperNow_156 rfl ?_
          refine z_iastN zu_s (show 5 < 7 by decide) (by decide) d_Mo_keeperNow_158 ?_
          refine z_one ?_
          refine z_dup d_Mo_keeperNow_159 rfl ?_
          refine z_bipush (v := (nI 6)) d_Mo_keeperNow_160 (by decide) ?_
          refine z_iload 1 d_Mo_keeperNow_162 rfl ?_
          refine z_iastN zu_s (show 6 < 7 by decide) (by decide) d_Mo_keeperNow_164 ?_
          refine z_one ?_
          refine z_astore (L' := [(6, _), (5, _), (4, _), (3, _), (0, _), (1, _), (2, _)]) d_Mo_keeperNow_165 (by decide) rfl ?_
          refine z_aload 0 d_Mo_keeperNow_167 rfl ?_
          refine z_iload_n 6 d_Mo_keeperNow_169 rfl rfl ?_
          refine z_ialdN zu_s (hw) (by decide) d_Mo_keeperNow_170 ?_
          exact z_iret rfl (⟨by unfold mKeA; first | rw [if_pos c_145] | rw [if_neg c_145], hMo _, zFr.new ha⟩) (by first | decide | omega) (by first | decide | omega) d_Mo_keeperNow_171
      · skip
        have hi6 : i < ns := Nat.lt_of_not_le fun q => c_34 (nI_le q (by omega))
        refine z_iload 2 d_Mo_keeperNow_37 rfl ?_
        refine z_aload_n 4 d_Mo_keeperNow_39 rfl rfl ?_
        refine z_get zc_Mo 7 (by decide) qF_Mo_20 hM.mo rfl d_Mo_keeperNow_40 ?_
        refine z_iload 0 d_Mo_keeperNow_43 rfl ?_
        refine z_callF0 (m_AL_get hs0 hst (hM.sA hi6) hi6 (if_pos hi6)) ym_AL_get zF_AL_get qM_Mo_51 zc_AL (hM.sA hi6).1 d_Mo_keeperNow_45 rfl (Nat.le_of_ble_eq_true rfl) ⟨by decide, by decide⟩ ⟨Nat.le_of_ble_eq_true rfl, Nat.le_of_ble_eq_true rfl⟩ ?_
        refine z_castS zc_MS qK_Mo_47 (hM.se hi6).1 d_Mo_keeperNow_50 ?_
        refine z_get zc_MS 6 (by decide) qF_Mo_46 (hM.se hi6).1 rfl d_Mo_keeperNow_53 ?_
        refine z_iload_n 5 d_Mo_keeperNow_56 rfl rfl ?_
        refine z_ialdN (hM.se hi6).2.1 (hj) (by decide) d_Mo_keeperNow_57 ?_
        refine z_iconst (v := (-1)) d_Mo_keeperNow_58 (by decide) ?_
        refine z_icmp_ne 66 d_Mo_keeperNow_59 (by decide) (fun c_59 => ?_) (fun c_59 => ?_)
        · skip
          have hz5 : nI (zcnt (fun i => decide (V (300 + i) ki ≠ -1)) i) + 1 = nI (zcnt (fun i => decide (V (300 + i) ki ≠ -1)) (i + 1)) := by rw [zcnt_step (f := (fun i => decide (V (300 + i) ki ≠ -1))) (decide_eq_true (p := V (300 + i) ki ≠ -1) c_59)]; exact nI_1 _
          refine z_iconst (v := 1) d_Mo_keeperNow_66 (by decide) ?_
          refine z_iadd d_Mo_keeperNow_67 ?_
          refine z_topv hz5 ?_
          refine z_istore (L' := [(4, _), (6, _), (5, _), (3, _), (0, _), (1, _), (2, _)]) d_Mo_keeperNow_68 (by decide) rfl ?_
          refine z_iload 2 d_Mo_keeperNow_70 rfl ?_
          refine z_aload_n 4 d_Mo_keeperNow_72 rfl rfl ?_
          refine z_get zc_Mo 7 (by decide) qF_Mo_20 hM.mo rfl d_Mo_keeperNow_73 ?_
          refine z_iload 1 d_Mo_keeperNow_76 rfl ?_
          refine z_callF0 (m_AL_get hs0 hst (hM.sA hi6) hi6 (if_pos hi6)) ym_AL_get zF_AL_get qM_Mo_51 zc_AL (hM.sA hi6).1 d_Mo_keeperNow_78 rfl (Nat.le_of_ble_eq_true rfl) ⟨by decide, by decide⟩ ⟨Nat.le_of_ble_eq_true rfl, Nat.le_of_ble_eq_true rfl⟩ ?_
          refine z_castS zc_MS qK_Mo_47 (hM.se hi6).1 d_Mo_keeperNow_83 ?_
          refine z_iload_n 5 d_Mo_keeperNow_86 rfl rfl ?_
          refine z_callV0 (m_MS_isStale hs0 hst (hM.se hi6) hj) ym_MS_isStale qM_Mo_190 qI_MS_isStale qV_MS_MS_isStale zc_MS (hM.se hi6).1 d_Mo_keeperNow_87 rfl (Nat.le_of_ble_eq_true rfl) ⟨by decide, by decide⟩ ⟨Nat.le_of_ble_eq_true rfl, Nat.le_of_ble_eq_true rfl⟩ ?_
          refine z_if_eq 97 d_Mo_keeperNow_90 (by decide) (fun c_90 => ?_) (fun c_90 => ?_)
          · skip
            have hz6 : nI (zcnt (fun i => zst (V (300 + i)) (V (400 + i)) (V (200 + i) 3) ki) i) + 0 = nI (zcnt (fun i => zst (V (300 + i)) (V (400 + i)) (V (200 + i) 3) ki) (i + 1)) := by rw [zcnt_skip (f := (fun i => zst (V (300 + i)) (V (400 + i)) (V (200 + i) 3) ki)) ((zb_0 _).mp c_90), Int32.add_zero]
            refine z_iconst (v := 0) d_Mo_keeperNow_97 (by decide) ?_
            refine z_iadd d_Mo_keeperNow_98 ?_
            refine z_topv hz6 ?_
            refine z_istore (L' := [(5, _), (4, _), (6, _), (3, _), (0, _), (1, _), (2, _)]) d_Mo_keeperNow_99 (by decide) rfl ?_
            refine z_iinc (v := nI (i + 1)) (L' := [(6, _), (5, _), (4, _), (3, _), (0, _), (1, _), (2, _)]) 2 d_Mo_keeperNow_101 rfl (nI_1 i) (by decide) rfl ?_
            refine z_goto 23 d_Mo_keeperNow_104 (by decide) ?_
            exact ih_23 (i + 1) (by omega) (by omega)
          · skip
            have hz6 : nI (zcnt (fun i => zst (V (300 + i)) (V (400 + i)) (V (200 + i) 3) ki) i) + 1 = nI (zcnt (fun i => zst (V (300 + i)) (V (400 + i)) (V (200 + i) 3) ki) (i + 1)) := by rw [zcnt_step (f := (fun i => zst (V (300 + i)) (V (400 + i)) (V (200 + i) 3) ki)) ((zb_n0 _).mp c_90)]; exact nI_1 _
            refine z_iconst (v := 1) d_Mo_keeperNow_93 (by decide) ?_
            refine z_goto 98 d_Mo_keeperNow_94 (by decide) ?_
            refine z_iadd d_Mo_keeperNow_98 ?_
            refine z_topv hz6 ?_
            refine z_istore (L' := [(5, _), (4, _), (6, _), (3, _), (0, _), (1, _), (2, _)]) d_Mo_keeperNow_99 (by decide) rfl ?_
            refine z_iinc (v := nI (i + 1)) (L' := [(6, _), (5, _), (4, _), (3, _), (0, _), (1, _), (2, _)]) 2 d_Mo_keeperNow_101 rfl (nI_1 i) (by decide) rfl ?_
            refine z_goto 23 d_Mo_keeperNow_104 (by decide) ?_
            exact ih_23 (i + 1) (by omega) (by omega)
        · skip
          have hz5 : nI (zcnt (fun i => decide (V (300 + i) ki ≠ -1)) i) + 0 = nI (zcnt (fun i => decide (V (300 + i) ki ≠ -1)) (i + 1)) := by rw [zcnt_skip (f := (fun i => decide (V (300 + i) ki ≠ -1))) (decide_eq_false (p := V (300 + i) ki ≠ -1) (fun q => q c_59)), Int32.add_zero]
          refine z_iconst (v := 0) d_Mo_keeperNow_62 (by decide) ?_
          refine z_goto 67 d_Mo_keeperNow_63 (by decide) ?_
          refine z_iadd d_Mo_keeperNow_67 ?_
          refine z_topv hz5 ?_
          refine z_istore (L' := [(4, _), (6, _), (5, _), (3, _), (0, _), (1, _), (2, _)]) d_Mo_keeperNow_68 (by decide) rfl ?_
          refine z_iload 2 d_Mo_keeperNow_70 rfl ?_
          refine z_aload_n 4 d_Mo_keeperNow_72 rfl rfl ?_
          refine z_get zc_Mo 7 (by decide) qF_Mo_20 hM.mo rfl d_Mo_keeperNow_73 ?_
          refine z_iload 1 d_Mo_keeperNow_76 rfl ?_
          refine z_callF0 (m_AL_get hs0 hst (hM.sA hi6) hi6 (if_pos hi6)) ym_AL_get zF_AL_get qM_Mo_51 zc_AL (hM.sA hi6).1 d_Mo_keeperNow_78 rfl (Nat.le_of_ble_eq_true rfl) ⟨by decide, by decide⟩ ⟨Nat.le_of_ble_eq_true rfl, Nat.le_of_ble_eq_true rfl⟩ ?_
          refine z_castS zc_MS qK_Mo_47 (hM.se hi6).1 d_Mo_keeperNow_83 ?_
          refine z_iload_n 5 d_Mo_keeperNow_86 rfl rfl ?_
          refine z_callV0 (m_MS_isStale hs0 hst (hM.se hi6) hj) ym_MS_isStale qM_Mo_190 qI_MS_isStale qV_MS_MS_isStale zc_MS (hM.se hi6).1 d_Mo_keeperNow_87 rfl (Nat.le_of_ble_eq_true rfl) ⟨by decide, by decide⟩ ⟨Nat.le_of_ble_eq_true rfl, Nat.le_of_ble_eq_true rfl⟩ ?_
          refine z_if_eq 97 d_Mo_keeperNow_90 (by decide) (fun c_90 => ?_) (fun c_90 => ?_)
          · skip
            have hz6 : nI (zcnt (fun i => zst (V (300 + i)) (V (400 + i)) (V (200 + i) 3) ki) i) + 0 = nI (zcnt (fun i => zst (V (300 + i)) (V (400 + i)) (V (200 + i) 3) ki) (i + 1)) := by rw [zcnt_skip (f := (fun i => zst (V (300 + i)) (V (400 + i)) (V (200 + i) 3) ki)) ((zb_0 _).mp c_90), Int32.add_zero]
            refine z_iconst (v := 0) d_Mo_keeperNow_97 (by decide) ?_
            refine z_iadd d_Mo_keeperNow_98 ?_
            refine z_topv hz6 ?_
            refine z_istore (L' := [(5, _), (4, _), (6, _), (3, _), (0, _), (1, _), (2, _)]) d_Mo_keeperNow_99 (by decide) rfl ?_
            refine z_iinc (v := nI (i + 1)) (L' := [(6, _), (5, _), (4, _), (3, _), (0, _), (1, _), (2, _)]) 2 d_Mo_keeperNow_101 rfl (nI_1 i) (by decide) rfl ?_
            refine z_goto 23 d_Mo_keeperNow_104 (by decide) ?_
            exact ih_23 (i + 1) (by omega) (by omega)
          · skip
            have hz6 : nI (zcnt (fun i => zst (V (300 + i)) (V (400 + i)) (V (200 + i) 3) ki) i) + 1 = nI (zcnt (fun i => zst (V (300 + i)) (V (400 + i)) (V (200 + i) 3) ki) (i + 1)) := by rw [zcnt_step (f := (fun i => zst (V (300 + i)) (V (400 + i)) (V (200 + i) 3) ki)) ((zb_n0 _).mp c_90)]; exact nI_1 _
            refine z_iconst (v := 1) d_Mo_keeperNow_93 (by decide) ?_
            refine z_goto 98 d_Mo_keeperNow_94 (by decide) ?_
            refine z_iadd d_Mo_keeperNow_98 ?_
            refine z_topv hz6 ?_
            refine z_istore (L' := [(5, _), (4, _), (6, _), (3, _), (0, _), (1, _), (2, _)]) d_Mo_keeperNow_99 (by decide) rfl ?_
            refine z_iinc (v := nI (i + 1)) (L' := [(6, _), (5, _), (4, _), (3, _), (0, _), (1, _), (2, _)]) 2 d_Mo_keeperNow_101 rfl (nI_1 i) (by decide) rfl ?_
            refine z_goto 23 d_Mo_keeperNow_104 (by decide) ?_
            exact ih_23 (i + 1) (by omega) (by omega)
  exact key_23 (ns + 1) 0 (by omega) (by omega)
set_option maxHeartbeats 4000000 in
set_option maxRecDepth 100000 in
theorem m_Mo_ofKeeperE {g0 : State} {d : zD} {l : Launch} {a0 : Array Value} (hs0 : zS0 d a0 g0) (hst : l.stackTraces = false) {G : zG} {B : Nat → Nat} {V : Nat → Nat → Int32} {nk ns ne ec : Nat} (hM : zM d B V nk ns ne ec G) (x w : Int32) : zMet g0 d l y_Mo_ofKeeper c_Mo_ofKeeper 3 ((Option.some Jvm.ClassFile.FieldType.int)) 12 1 7 [.ref (B 0), .int x, .int w] (G) (mAq d B nk ns ne ec V G (rKe nk ns x w)) (zNo) := by
  have hnk : nk ≤ 8 := hM.2.1
  have hns : ns ≤ 6 := hM.2.2.1
  have hne : ne ≤ 64 := hM.2.2.2.1
  have hp2 : 2 ^ nk ≤ 256 := Nat.pow_le_pow_right (n := 2) (by decide) hnk
  refine z_entry hs0 hst (by decide) (Nat.le_of_ble_eq_true rfl) (fun p e s m args below meth c => ?_)
  refine z_aload_n 0 d_Mo_ofKeeper_0 rfl rfl ?_
  refine z_iconst (v := 0) d_Mo_ofKeeper_1 (by decide) ?_
  refine z_put zc_Mo 0 (by decide) qF_Mo_36 hM.mo rfl rfl rfl (Nat.le_of_ble_eq_true rfl) d_Mo_ofKeeper_2 ?_
  obtain ⟨V1, hM1, hK1, hF1, hT1⟩ := hM.putT 0
  refine z_aload_n 0 d_Mo_ofKeeper_5 rfl rfl ?_
  refine z_iload_n 1 d_Mo_ofKeeper_6 rfl rfl ?_
  refine z_callV0 (m_Mo_isKeeper hs0 hst hM1 x) ym_Mo_isKeeper qM_Mo_125 qI_Mo_isKeeper qV_Mo_Mo_isKeeper zc_Mo hM1.mo d_Mo_ofKeeper_7 rfl (Nat.le_of_ble_eq_true rfl) ⟨by decide, by decide⟩ ⟨Nat.le_of_ble_eq_true rfl, Nat.le_of_ble_eq_true rfl⟩ ?_
  refine z_if_ne 19 d_Mo_ofKeeper_10 (by decide) (fun c_10 => ?_) (fun c_10 => ?_)
  · skip
    obtain ⟨ki, hki, rfl⟩ := zin_n ((zb_n0 _).mp c_10) (by omega)
    refine z_iload_n 2 d_Mo_ofKeeper_19 rfl rfl ?_
    refine z_iconst (v := 0) d_Mo_ofKeeper_20 (by decide) ?_
    refine z_bipush (v := (nI 6)) d_Mo_ofKeeper_21 (by decide) ?_
    refine z_callS0 (m_Mo_in hs0 hst w 0 _) ym_Mo_in qM_Mo_115 qS_Mo_in d_Mo_ofKeeper_23 rfl (Nat.le_of_ble_eq_true rfl) ⟨by decide, by decide⟩ ⟨Nat.le_of_ble_eq_true rfl, Nat.le_of_ble_eq_true rfl⟩ ?_
    refine z_if_ne 35 d_Mo_ofKeeper_26 (by decide) (fun c_26 => ?_) (fun c_26 => ?_)
    · skip
      obtain ⟨wi, hwi, rfl⟩ := zin_l ((zb_n0 _).mp c_26) (by decide)
      refine z_aload_n 0 d_Mo_ofKeeper_35 rfl rfl ?_
      refine z_iload_n 1 d_Mo_ofKeeper_36 rfl rfl ?_
      refine z_iload_n 2 d_Mo_ofKeeper_37 rfl rfl ?_
      refine z_callVp1 ((m_Mo_keeperNowE hs0 hst hM1 hki hwi)) ym_Mo_keeperNow qM_Mo_199 qI_Mo_keeperNow qV_Mo_Mo_keeperNow zc_Mo hM1.mo d_Mo_ofKeeper_38 rfl (Nat.le_of_ble_eq_true rfl) ⟨by decide, by decide⟩ ⟨Nat.le_of_ble_eq_true rfl, Nat.le_of_ble_eq_true rfl⟩ (fun r_38 G_38 hp_38 => ?_)
      obtain ⟨hr_38, hM2, hF2⟩ := hp_38
      obtain rfl : r_38 = _ := hr_38
      exact z_iret rfl (⟨_, V1, rfl, Or.inr ⟨ki, hki, rfl, Or.inr ⟨wi, hwi, rfl, hT1, rfl⟩⟩, hM2, hK1, hF1.tr hF2⟩) (by first | decide | omega) (by first | decide | omega) d_Mo_ofKeeper_41
    · skip
      refine z_aload_n 0 d_Mo_ofKeeper_29 rfl rfl ?_
      refine z_iconst (v := 2) d_Mo_ofKeeper_30 (by decide) ?_
      refine z_callV0 (m_Mo_no hs0 hst hM1.mo 2) ym_Mo_no qM_Mo_119 qI_Mo_no qV_Mo_Mo_no zc_Mo hM1.mo d_Mo_ofKeeper_31 rfl (Nat.le_of_ble_eq_true rfl) ⟨by decide, by decide⟩ ⟨Nat.le_of_ble_eq_true rfl, Nat.le_of_ble_eq_true rfl⟩ ?_
      obtain ⟨V9, hM9, hK9, hF9, hT9⟩ := hM1.putT 2
      exact z_iret rfl (⟨_, V9, rfl, Or.inr ⟨ki, hki, rfl, Or.inl ⟨(zb_0 _).mp c_26, hT9⟩⟩, hM9, hK1.tr hK9, hF1.tr hF9⟩) (by first | decide | omega) (by first | decide | omega) d_Mo_ofKeeper_34
  · skip
    refine z_aload_n 0 d_Mo_ofKeeper_13 rfl rfl ?_
    refine z_iconst (v := 1) d_Mo_ofKeeper_14 (by decide) ?_
    refine z_callV0 (m_Mo_no hs0 hst hM1.mo 1) ym_Mo_no qM_Mo_119 qI_Mo_no qV_Mo_Mo_no zc_Mo hM1.mo d_Mo_ofKeeper_15 rfl (Nat.le_of_ble_eq_true rfl) ⟨by decide, by decide⟩ ⟨Nat.le_of_ble_eq_true rfl, Nat.le_of_ble_eq_true rfl⟩ ?_
    obtain ⟨V9, hM9, hK9, hF9, hT9⟩ := hM1.putT 1
    exact z_iret rfl (⟨_, V9, rfl, Or.inl ⟨(zb_0 _).mp c_10, hT9⟩, hM9, hK1.tr hK9, hF1.tr hF9⟩) (by first | decide | omega) (by first | decide | omega) d_Mo_ofKeeper_18
