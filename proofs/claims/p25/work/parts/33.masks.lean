
theorem zand_le (x : Int32) {g : Nat} (hg : g < 2 ^ 31) : ∃ q, q ≤ g ∧ x &&& nI g = nI q := by
  refine ⟨x.toBitVec.toNat &&& g, Nat.and_le_right, ?_⟩
  have hle : x.toBitVec.toNat &&& g ≤ g := Nat.and_le_right
  rw [← Int32.toBitVec_inj, Int32.toBitVec_and]
  apply BitVec.eq_of_toNat_eq
  rw [BitVec.toNat_and, pk_tn (by omega), pk_tn (by omega)]
theorem zand_le2 (x : Int32) {g : Nat} (hg : g < 2 ^ 31) : ∃ q, q ≤ g ∧ nI g &&& x = nI q := by
  rw [Int32.and_comm]; exact zand_le x hg
theorem m_Mo_groupQ {g0 : State} {d : zD} {l : Launch} {a0 : Array Value} (hs0 : zS0 d a0 g0) (hst : l.stackTraces = false) {G : zG} {B : Nat → Nat} {V : Nat → Nat → Int32} {nk ns ne ec : Nat} (hM : zM d B V nk ns ne ec G) {si : Nat} (hsi : si < ns) {g : Nat} (hg : g < 2 ^ nk) : zMet g0 d l y_Mo_group c_Mo_group 3 (Option.some Jvm.ClassFile.FieldType.int) 3 0 0 [.ref (B 0), .ref (B (200 + si)), .int (nI g)] G (fun r G1 => (∃ q, q < 2 ^ nk ∧ r = some (.int (nI q))) ∧ G = G1) zNo := by
  have hp2 : 2 ^ nk ≤ 256 := Nat.pow_le_pow_right (n := 2) (by decide) hM.2.1
  refine zMet.imp (m_Mo_group hs0 hst hM hsi (nI g)) (fun r G1 h => ?_) (fun _ _ h => h)
  obtain ⟨rfl, rfl⟩ := h
  obtain ⟨q, hq, e⟩ := zand_le (zset (zgd (V (300 + si)) (V (400 + si)) (V (200 + si) 3)) 8) (g := g) (by omega)
  exact ⟨⟨q, by omega, by rw [e]⟩, rfl⟩

theorem d_Mo_priceOf_0 : decode c_Mo_priceOf 0 = .ok (.iconst 0, 1) := by decide +kernel
theorem d_Mo_priceOf_1 : decode c_Mo_priceOf 1 = .ok (.istore_n 2, 1) := by decide +kernel
theorem d_Mo_priceOf_2 : decode c_Mo_priceOf 2 = .ok (.iconst 0, 1) := by decide +kernel
theorem d_Mo_priceOf_3 : decode c_Mo_priceOf 3 = .ok (.istore_n 3, 1) := by decide +kernel
theorem d_Mo_priceOf_4 : decode c_Mo_priceOf 4 = .ok (.iload_n 3, 1) := by decide +kernel
theorem d_Mo_priceOf_5 : decode c_Mo_priceOf 5 = .ok (.aload_n 0, 1) := by decide +kernel
theorem d_Mo_priceOf_6 : decode c_Mo_priceOf 6 = .ok (.getfield 16, 3) := by decide +kernel
theorem d_Mo_priceOf_9 : decode c_Mo_priceOf 9 = .ok (.invokeinterface 94 1, 5) := by decide +kernel
theorem d_Mo_priceOf_14 : decode c_Mo_priceOf 14 = .ok (.if_icmp .ge 40, 3) := by decide +kernel
theorem d_Mo_priceOf_17 : decode c_Mo_priceOf 17 = .ok (.iload_n 2, 1) := by decide +kernel
theorem d_Mo_priceOf_18 : decode c_Mo_priceOf 18 = .ok (.iload_n 1, 1) := by decide +kernel
theorem d_Mo_priceOf_19 : decode c_Mo_priceOf 19 = .ok (.iload_n 3, 1) := by decide +kernel
theorem d_Mo_priceOf_20 : decode c_Mo_priceOf 20 = .ok (.invokestatic 76, 3) := by decide +kernel
theorem d_Mo_priceOf_23 : decode c_Mo_priceOf 23 = .ok (.ifCond .eq 22, 3) := by decide +kernel
theorem d_Mo_priceOf_26 : decode c_Mo_priceOf 26 = .ok (.aload_n 0, 1) := by decide +kernel
theorem d_Mo_priceOf_27 : decode c_Mo_priceOf 27 = .ok (.getfield 16, 3) := by decide +kernel
theorem d_Mo_priceOf_30 : decode c_Mo_priceOf 30 = .ok (.iload_n 3, 1) := by decide +kernel
theorem d_Mo_priceOf_31 : decode c_Mo_priceOf 31 = .ok (.invokeinterface 51 2, 5) := by decide +kernel
theorem d_Mo_priceOf_36 : decode c_Mo_priceOf 36 = .ok (.checkcast 57, 3) := by decide +kernel
theorem d_Mo_priceOf_39 : decode c_Mo_priceOf 39 = .ok (.getfield 193, 3) := by decide +kernel
theorem d_Mo_priceOf_42 : decode c_Mo_priceOf 42 = .ok (.goto 4, 3) := by decide +kernel
theorem d_Mo_priceOf_45 : decode c_Mo_priceOf 45 = .ok (.iconst 0, 1) := by decide +kernel
theorem d_Mo_priceOf_46 : decode c_Mo_priceOf 46 = .ok (.iadd, 1) := by decide +kernel
theorem d_Mo_priceOf_47 : decode c_Mo_priceOf 47 = .ok (.istore_n 2, 1) := by decide +kernel
theorem d_Mo_priceOf_48 : decode c_Mo_priceOf 48 = .ok (.iinc 3 1, 3) := by decide +kernel
theorem d_Mo_priceOf_51 : decode c_Mo_priceOf 51 = .ok (.goto (-47), 3) := by decide +kernel
theorem d_Mo_priceOf_54 : decode c_Mo_priceOf 54 = .ok (.iload_n 2, 1) := by decide +kernel
theorem d_Mo_priceOf_55 : decode c_Mo_priceOf 55 = .ok (.ireturn, 1) := by decide +kernel
set_option maxHeartbeats 4000000 in
set_option maxRecDepth 100000 in
theorem m_Mo_priceOf {g0 : State} {d : zD} {l : Launch} {a0 : Array Value} (hs0 : zS0 d a0 g0) (hst : l.stackTraces = false) {G : zG} {B : Nat → Nat} {V : Nat → Nat → Int32} {nk ns ne ec : Nat} (hM : zM d B V nk ns ne ec G) (set : Int32) : zMet g0 d l y_Mo_priceOf c_Mo_priceOf 4 ((Option.some Jvm.ClassFile.FieldType.int)) 11 0 0 [.ref (B 0), .int set] (G) (zI1 G) (zNo) := by
  have hnk : nk ≤ 8 := hM.2.1
  have hns : ns ≤ 6 := hM.2.2.1
  have hne : ne ≤ 64 := hM.2.2.2.1
  have hp2 : 2 ^ nk ≤ 256 := Nat.pow_le_pow_right (n := 2) (by decide) hnk
  refine z_entry hs0 hst (by decide) (Nat.le_of_ble_eq_true rfl) (fun p e s m args below meth c => ?_)
  refine z_iconst (v := 0) d_Mo_priceOf_0 (by decide) ?_
  refine z_istore_n (L' := [(2, _), (0, _), (1, _)]) d_Mo_priceOf_1 rfl (by decide) rfl ?_
  refine z_iconst (v := (nI 0)) d_Mo_priceOf_2 (by decide) ?_
  refine z_istore_n (L' := [(3, _), (2, _), (0, _), (1, _)]) d_Mo_priceOf_3 rfl (by decide) rfl ?_
  have key_4 : ∀ (n : Nat) (i : Nat) (v : Int32), nk - i < n → (i ≤ nk) → Z g0 d y_Mo_priceOf c_Mo_priceOf 4 ((Option.some Jvm.ClassFile.FieldType.int)) [] p l e (zR 11 0 0) s m args below meth c (vx_MQ below (zQc g0 d (zI1 G)) (zXc g0 d (zNo)) args s 0 0 (zA g0)) 0 0 (G) [(3, .int (nI i)), (2, .int v), (0, .ref (B 0)), (1, .int set)] [] 4 := by
    intro n
    induction n with
    | zero => intro i v h0; exact absurd h0 (Nat.not_lt_zero _)
    | succ n ih_4 =>
      intro i v hm_4 hi
      refine z_iload_n 0 d_Mo_priceOf_4 rfl rfl ?_
      refine z_aload_n 2 d_Mo_priceOf_5 rfl rfl ?_
      refine z_get zc_Mo 6 (by decide) qF_Mo_16 hM.mo rfl d_Mo_priceOf_6 ?_
      refine z_callF0 (m_AL_size hs0 hst hM.kl) ym_AL_size zF_AL_size qM_Mo_94 zc_AL hM.kl d_Mo_priceOf_9 rfl (Nat.le_of_ble_eq_true rfl) ⟨Nat.zero_le _, Nat.zero_le _⟩ ⟨Nat.le_of_ble_eq_true rfl, Nat.le_of_ble_eq_true rfl⟩ ?_
      refine z_icmp_ge 54 d_Mo_priceOf_14 (by decide) (fun c_14 => ?_) (fun c_14 => ?_)
      · skip
        refine z_iload_n 1 d_Mo_priceOf_54 rfl rfl ?_
        exact z_iret rfl (⟨⟨_, rfl⟩, rfl⟩) (by first | decide | omega) (by first | decide | omega) d_Mo_priceOf_55
      · skip
        have hi6 : i < nk := Nat.lt_of_not_le fun q => c_14 (nI_le q (by omega))
        refine z_iload_n 1 d_Mo_priceOf_17 rfl rfl ?_
        refine z_iload_n 3 d_Mo_priceOf_18 rfl rfl ?_
        refine z_iload_n 0 d_Mo_priceOf_19 rfl rfl ?_
        refine z_callS0 (m_Mo_has hs0 hst set (nI i)) ym_Mo_has qM_Mo_76 qS_Mo_has d_Mo_priceOf_20 rfl (Nat.le_of_ble_eq_true rfl) ⟨Nat.zero_le _, Nat.zero_le _⟩ ⟨Nat.le_of_ble_eq_true rfl, Nat.le_of_ble_eq_true rfl⟩ ?_
        refine z_if_eq 45 d_Mo_priceOf_23 (by decide) (fun c_23 => ?_) (fun c_23 => ?_)
        · skip
          refine z_iconst (v := 0) d_Mo_priceOf_45 (by decide) ?_
          refine z_iadd d_Mo_priceOf_46 ?_
          refine z_istore_n (L' := [(2, _), (3, _), (0, _), (1, _)]) d_Mo_priceOf_47 rfl (by decide) rfl ?_
          refine z_iinc (v := nI (i + 1)) (L' := [(3, _), (2, _), (0, _), (1, _)]) 1 d_Mo_priceOf_48 rfl (nI_1 i) (by decide) rfl ?_
          refine z_goto 4 d_Mo_priceOf_51 (by decide) ?_
          exact ih_4 (i + 1) _ (by omega) (by omega)
        · skip
          refine z_aload_n 2 d_Mo_priceOf_26 rfl rfl ?_
          refine z_get zc_Mo 6 (by decide) qF_Mo_16 hM.mo rfl d_Mo_priceOf_27 ?_
          refine z_iload_n 0 d_Mo_priceOf_30 rfl rfl ?_
          refine z_callF0 (m_AL_get hs0 hst (hM.kA hi6) hi6 (if_pos hi6)) ym_AL_get zF_AL_get qM_Mo_51 zc_AL (hM.kA hi6).1 d_Mo_priceOf_31 rfl (Nat.le_of_ble_eq_true rfl) ⟨Nat.zero_le _, Nat.zero_le _⟩ ⟨Nat.le_of_ble_eq_true rfl, Nat.le_of_ble_eq_true rfl⟩ ?_
          refine z_castS zc_MK qK_Mo_57 (hM.ke hi6) d_Mo_priceOf_36 ?_
          refine z_get zc_MK 1 (by decide) qF_Mo_193 (hM.ke hi6) rfl d_Mo_priceOf_39 ?_
          refine z_goto 46 d_Mo_priceOf_42 (by decide) ?_
          refine z_iadd d_Mo_priceOf_46 ?_
          refine z_istore_n (L' := [(2, _), (3, _), (0, _), (1, _)]) d_Mo_priceOf_47 rfl (by decide) rfl ?_
          refine z_iinc (v := nI (i + 1)) (L' := [(3, _), (2, _), (0, _), (1, _)]) 1 d_Mo_priceOf_48 rfl (nI_1 i) (by decide) rfl ?_
          refine z_goto 4 d_Mo_priceOf_51 (by decide) ?_
          exact ih_4 (i + 1) _ (by omega) (by omega)
  exact key_4 (nk + 1) 0 _ (by omega) (by omega)
theorem d_Mo_keeperNow_0 : decode c_Mo_keeperNow 0 = .ok (.aload_n 0, 1) := by decide +kernel
theorem d_Mo_keeperNow_1 : decode c_Mo_keeperNow 1 = .ok (.getfield 16, 3) := by decide +kernel
theorem d_Mo_keeperNow_4 : decode c_Mo_keeperNow 4 = .ok (.iload_n 1, 1) := by decide +kernel
theorem d_Mo_keeperNow_5 : decode c_Mo_keeperNow 5 = .ok (.invokeinterface 51 2, 5) := by decide +kernel
theorem d_Mo_keeperNow_10 : decode c_Mo_keeperNow 10 = .ok (.checkcast 57, 3) := by decide +kernel
theorem d_Mo_keeperNow_13 : decode c_Mo_keeperNow 13 = .ok (.astore_n 3, 1) := by decide +kernel
theorem d_Mo_keeperNow_14 : decode c_Mo_keeperNow 14 = .ok (.iconst 0, 1) := by decide +kernel
theorem d_Mo_keeperNow_15 : decode c_Mo_keeperNow 15 = .ok (.istore 4, 2) := by decide +kernel
theorem d_Mo_keeperNow_17 : decode c_Mo_keeperNow 17 = .ok (.iconst 0, 1) := by decide +kernel
theorem d_Mo_keeperNow_18 : decode c_Mo_keeperNow 18 = .ok (.istore 5, 2) := by decide +kernel
theorem d_Mo_keeperNow_20 : decode c_Mo_keeperNow 20 = .ok (.iconst 0, 1) := by decide +kernel
theorem d_Mo_keeperNow_21 : decode c_Mo_keeperNow 21 = .ok (.istore 6, 2) := by decide +kernel
theorem d_Mo_keeperNow_23 : decode c_Mo_keeperNow 23 = .ok (.iload 6, 2) := by decide +kernel
theorem d_Mo_keeperNow_25 : decode c_Mo_keeperNow 25 = .ok (.aload_n 0, 1) := by decide +kernel
theorem d_Mo_keeperNow_26 : decode c_Mo_keeperNow 26 = .ok (.getfield 20, 3) := by decide +kernel
theorem d_Mo_keeperNow_29 : decode c_Mo_keeperNow 29 = .ok (.invokeinterface 94 1, 5) := by decide +kernel
theorem d_Mo_keeperNow_34 : decode c_Mo_keeperNow 34 = .ok (.if_icmp .ge 73, 3) := by decide +kernel
theorem d_Mo_keeperNow_37 : decode c_Mo_keeperNow 37 = .ok (.iload 4, 2) := by decide +kernel
theorem d_Mo_keeperNow_39 : decode c_Mo_keeperNow 39 = .ok (.aload_n 0, 1) := by decide +kernel
theorem d_Mo_keeperNow_40 : decode c_Mo_keeperNow 40 = .ok (.getfield 20, 3) := by decide +kernel
theorem d_Mo_keeperNow_43 : decode c_Mo_keeperNow 43 = .ok (.iload 6, 2) := by decide +kernel
theorem d_Mo_keeperNow_45 : decode c_Mo_keeperNow 45 = .ok (.invokeinterface 51 2, 5) := by decide +kernel
theorem d_Mo_keeperNow_50 : decode c_Mo_keeperNow 50 = .ok (.checkcast 47, 3) := by decide +kernel
theorem d_Mo_keeperNow_53 : decode c_Mo_keeperNow 53 = .ok (.getfield 46, 3) := by decide +kernel
theorem d_Mo_keeperNow_56 : decode c_Mo_keeperNow 56 = .ok (.iload_n 1, 1) := by decide +kernel
theorem d_Mo_keeperNow_57 : decode c_Mo_keeperNow 57 = .ok (.iaload, 1) := by decide +kernel
theorem d_Mo_keeperNow_58 : decode c_Mo_keeperNow 58 = .ok (.iconst (-1), 1) := by decide +kernel
theorem d_Mo_keeperNow_59 : decode c_Mo_keeperNow 59 = .ok (.if_icmp .ne 7, 3) := by decide +kernel
theorem d_Mo_keeperNow_62 : decode c_Mo_keeperNow 62 = .ok (.iconst 0, 1) := by decide +kernel
theorem d_Mo_keeperNow_63 : decode c_Mo_keeperNow 63 = .ok (.goto 4, 3) := by decide +kernel
theorem d_Mo_keeperNow_66 : decode c_Mo_keeperNow 66 = .ok (.iconst 1, 1) := by decide +kernel
theorem d_Mo_keeperNow_67 : decode c_Mo_keeperNow 67 = .ok (.iadd, 1) := by decide +kernel
theorem d_Mo_keeperNow_68 : decode c_Mo_keeperNow 68 = .ok (.istore 4, 2) := by decide +kernel
theorem d_Mo_keeperNow_70 : decode c_Mo_keeperNow 70 = .ok (.iload 5, 2) := by decide +kernel
theorem d_Mo_keeperNow_72 : decode c_Mo_keeperNow 72 = .ok (.aload_n 0, 1) := by decide +kernel
theorem d_Mo_keeperNow_73 : decode c_Mo_keeperNow 73 = .ok (.getfield 20, 3) := by decide +kernel
theorem d_Mo_keeperNow_76 : decode c_Mo_keeperNow 76 = .ok (.iload 6, 2) := by decide +kernel
theorem d_Mo_keeperNow_78 : decode c_Mo_keeperNow 78 = .ok (.invokeinterface 51 2, 5) := by decide +kernel
theorem d_Mo_keeperNow_83 : decode c_Mo_keeperNow 83 = .ok (.checkcast 47, 3) := by decide +kernel
theorem d_Mo_keeperNow_86 : decode c_Mo_keeperNow 86 = .ok (.iload_n 1, 1) := by decide +kernel
theorem d_Mo_keeperNow_87 : decode c_Mo_keeperNow 87 = .ok (.invokevirtual 190, 3) := by decide +kernel
theorem d_Mo_keeperNow_90 : decode c_Mo_keeperNow 90 = .ok (.ifCond .eq 7, 3) := by decide +kernel
theorem d_Mo_keeperNow_93 : decode c_Mo_keeperNow 93 = .ok (.iconst 1, 1) := by decide +kernel
theorem d_Mo_keeperNow_94 : decode c_Mo_keeperNow 94 = .ok (.goto 4, 3) := by decide +kernel
theorem d_Mo_keeperNow_97 : decode c_Mo_keeperNow 97 = .ok (.iconst 0, 1) := by decide +kernel
theorem d_Mo_keeperNow_98 : decode c_Mo_keeperNow 98 = .ok (.iadd, 1) := by decide +kernel
theorem d_Mo_keeperNow_99 : decode c_Mo_keeperNow 99 = .ok (.istore 5, 2) := by decide +kernel
theorem d_Mo_keeperNow_101 : decode c_Mo_keeperNow 101 = .ok (.iinc 6 1, 3) := by decide +kernel
theorem d_Mo_keeperNow_104 : decode c_Mo_keeperNow 104 = .ok (.goto (-81), 3) := by decide +kernel
theorem d_Mo_keeperNow_107 : decode c_Mo_keeperNow 107 = .ok (.bipush 7, 2) := by decide +kernel
theorem d_Mo_keeperNow_109 : decode c_Mo_keeperNow 109 = .ok (.newarray .int, 2) := by decide +kernel
theorem d_Mo_keeperNow_111 : decode c_Mo_keeperNow 111 = .ok (.dup, 1) := by decide +kernel
theorem d_Mo_keeperNow_112 : decode c_Mo_keeperNow 112 = .ok (.iconst 0, 1) := by decide +kernel
theorem d_Mo_keeperNow_113 : decode c_Mo_keeperNow 113 = .ok (.aload_n 3, 1) := by decide +kernel
theorem d_Mo_keeperNow_114 : decode c_Mo_keeperNow 114 = .ok (.getfield 96, 3) := by decide +kernel
theorem d_Mo_keeperNow_117 : decode c_Mo_keeperNow 117 = .ok (.iastore, 1) := by decide +kernel
theorem d_Mo_keeperNow_118 : decode c_Mo_keeperNow 118 = .ok (.dup, 1) := by decide +kernel
theorem d_Mo_keeperNow_119 : decode c_Mo_keeperNow 119 = .ok (.iconst 1, 1) := by decide +kernel
theorem d_Mo_keeperNow_120 : decode c_Mo_keeperNow 120 = .ok (.aload_n 3, 1) := by decide +kernel
theorem d_Mo_keeperNow_121 : decode c_Mo_keeperNow 121 = .ok (.getfield 193, 3) := by decide +kernel
theorem d_Mo_keeperNow_124 : decode c_Mo_keeperNow 124 = .ok (.iastore, 1) := by decide +kernel
theorem d_Mo_keeperNow_125 : decode c_Mo_keeperNow 125 = .ok (.dup, 1) := by decide +kernel
theorem d_Mo_keeperNow_126 : decode c_Mo_keeperNow 126 = .ok (.iconst 2, 1) := by decide +kernel
theorem d_Mo_keeperNow_127 : decode c_Mo_keeperNow 127 = .ok (.aload_n 3, 1) := by decide +kernel
theorem d_Mo_keeperNow_128 : decode c_Mo_keeperNow 128 = .ok (.getfield 196, 3) := by decide +kernel
theorem d_Mo_keeperNow_131 : decode c_Mo_keeperNow 131 = .ok (.iastore, 1) := by decide +kernel
theorem d_Mo_keeperNow_132 : decode c_Mo_keeperNow 132 = .ok (.dup, 1) := by decide +kernel
theorem d_Mo_keeperNow_133 : decode c_Mo_keeperNow 133 = .ok (.iconst 3, 1) := by decide +kernel
theorem d_Mo_keeperNow_134 : decode c_Mo_keeperNow 134 = .ok (.aload_n 3, 1) := by decide +kernel
theorem d_Mo_keeperNow_135 : decode c_Mo_keeperNow 135 = .ok (.getfield 59, 3) := by decide +kernel
theorem d_Mo_keeperNow_138 : decode c_Mo_keeperNow 138 = .ok (.iastore, 1) := by decide +kernel
theorem d_Mo_keeperNow_139 : decode c_Mo_keeperNow 139 = .ok (.dup, 1) := by decide +kernel
theorem d_Mo_keeperNow_140 : decode c_Mo_keeperNow 140 = .ok (.iconst 4, 1) := by decide +kernel
theorem d_Mo_keeperNow_141 : decode c_Mo_keeperNow 141 = .ok (.aload_n 3, 1) := by decide +kernel
theorem d_Mo_keeperNow_142 : decode c_Mo_keeperNow 142 = .ok (.getfield 184, 3) := by decide +kernel
theorem d_Mo_keeperNow_145 : decode c_Mo_keeperNow 145 = .ok (.ifCond .eq 7, 3) := by decide +kernel
theorem d_Mo_keeperNow_148 : decode c_Mo_keeperNow 148 = .ok (.iconst 1, 1) := by decide +kernel
theorem d_Mo_keeperNow_149 : decode c_Mo_keeperNow 149 = .ok (.goto 4, 3) := by decide +kernel
theorem d_Mo_keeperNow_152 : decode c_Mo_keeperNow 152 = .ok (.iconst 0, 1) := by decide +kernel
theorem d_Mo_keeperNow_153 : decode c_Mo_keeperNow 153 = .ok (.iastore, 1) := by decide +kernel
theorem d_Mo_keeperNow_154 : decode c_Mo_keeperNow 154 = .ok (.dup, 1) := by decide +kernel
theorem d_Mo_keeperNow_155 : decode c_Mo_keeperNow 155 = .ok (.iconst 5, 1) := by decide +kernel
theorem d_Mo_keeperNow_156 : decode c_Mo_keeperNow 156 = .ok (.iload 4, 2) := by decide +kernel
theorem d_Mo_keeperNow_158 : decode c_Mo_keeperNow 158 = .ok (.iastore, 1) := by decide +kernel
theorem d_Mo_keeperNow_159 : decode c_Mo_keeperNow 159 = .ok (.dup, 1) := by decide +kernel
theorem d_Mo_keeperNow_160 : decode c_Mo_keeperNow 160 = .ok (.bipush 6, 2) := by decide +kernel
theorem d_Mo_keeperNow_162 : decode c_Mo_keeperNow 162 = .ok (.iload 5, 2) := by decide +kernel
theorem d_Mo_keeperNow_164 : decode c_Mo_keeperNow 164 = .ok (.iastore, 1) := by decide +kernel
theorem d_Mo_keeperNow_165 : decode c_Mo_keeperNow 165 = .ok (.astore 6, 2) := by decide +kernel
theorem d_Mo_keeperNow_167 : decode c_Mo_keeperNow 167 = .ok (.aload 6, 2) := by decide +kernel
theorem d_Mo_keeperNow_169 : decode c_Mo_keeperNow 169 = .ok (.iload_n 2, 1) := by decide +kernel
theorem d_Mo_keeperNow_170 : decode c_Mo_keeperNow 170 = .ok (.iaload, 1) := by decide +kernel
theorem d_Mo_keeperNow_171 : decode c_Mo_keeperNow 171 = .ok (.ireturn, 1) := by decide +kernel
set_option maxHeartbeats 4000000 in
set_option maxRecDepth 100000 in
theorem m_Mo_keeperNow {g0 : State} {d : zD} {l : Launch} {a0 : Array Value} (hs0 : zS0 d a0 g0) (hst : l.stackTraces = false) {G : zG} {B : Nat → Nat} {V : Nat → Nat → Int32} {nk ns ne ec : Nat} (hM : zM d B V nk ns ne ec G) {ki : Nat} (hki : ki < nk) {w : Nat} (hw : w < 7) : zMet g0 d l y_Mo_keeperNow c_Mo_keeperNow 7 ((Option.some Jvm.ClassFile.FieldType.int)) 11 1 7 [.ref (B 0), .int (nI ki), .int (nI w)] (G) (mTs d B nk ns ne ec V G zrI) (zNo) := by
  have hnk : nk ≤ 8 := hM.2.1
  have hns : ns ≤ 6 := hM.2.2.1
  have hne : ne ≤ 64 := hM.2.2.2.1
  have hp2 : 2 ^ nk ≤ 256 := Nat.pow_le_pow_right (n := 2) (by decide) hnk
  have hj : ki < 8 := by omega
  refine z_entry hs0 hst (by decide) (Nat.le_of_ble_eq_true rfl) (fun p e s m args below meth c => ?_)
  refine z_aload_n 0 d_Mo_keeperNow_0 rfl rfl ?_
  refine z_get zc_Mo 6 (by decide) qF_Mo_16 hM.mo rfl d_Mo_keeperNow_1 ?_
  refine z_iload_n 1 d_Mo_keeperNow_4 rfl rfl ?_
  refine z_callF0 (m_AL_get hs0 hst (hM.kA hki) hki (if_pos hki)) ym_AL_get zF_AL_get qM_Mo_51 zc_AL (hM.kA hki).1 d_Mo_keeperNow_5 rfl (Nat.le_of_ble_eq_true rfl) ⟨by decide, by decide⟩ ⟨Nat.le_of_ble_eq_true rfl, Nat.le_of_ble_eq_true rfl⟩ ?_
  refine z_castS zc_MK qK_Mo_57 (hM.ke hki) d_Mo_keeperNow_10 ?_
  refine z_astore_n (L' := [(3, _), (0, _), (1, _), (2, _)]) d_Mo_keeperNow_13 rfl (by decide) rfl ?_
  refine z_iconst (v := 0) d_Mo_keeperNow_14 (by decide) ?_
  refine z_istore (L' := [(4, _), (3, _), (0, _), (1, _), (2, _)]) d_Mo_keeperNow_15 (by decide) rfl ?_
  refine z_iconst (v := 0) d_Mo_keeperNow_17 (by decide) ?_
  refine z_istore (L' := [(5, _), (4, _), (3, _), (0, _), (1, _), (2, _)]) d_Mo_keeperNow_18 (by decide) rfl ?_
  refine z_iconst (v := (nI 0)) d_Mo_keeperNow_20 (by decide) ?_
  refine z_istore (L' := [(6, _), (5, _), (4, _), (3, _), (0, _), (1, _), (2, _)]) d_Mo_keeperNow_21 (by decide) rfl ?_
  have key_23 : ∀ (n : Nat) (i : Nat) (v u : Int32), ns - i < n → (i ≤ ns) → Z g0 d y_Mo_keeperNow c_Mo_keeperNow 7 ((Option.some Jvm.ClassFile.FieldType.int)) [] p l e (zR 11 1 7) s m args below meth c (vx_MQ below (zQc g0 d (mTs d B nk ns ne ec V G zrI)) (zXc g0 d (zNo)) args s 1 7 (zA g0)) 0 0 (G) [(6, .int (nI i)), (5, .int u), (4, .int v), (3, .ref (B (100 + ki))), (0, .ref (B 0)), (1, .int (nI ki)), (2, .int (nI w))] [] 23 := by
    intro n
    induction n with
    | zero => intro i v u h0; exact absurd h0 (Nat.not_lt_zero _)
    | succ n ih_23 =>
      intro i v u hm_23 hi
      refine z_iload 0 d_Mo_keeperNow_23 rfl ?_
      refine z_aload_n 4 d_Mo_keeperNow_25 rfl rfl ?_
      refine z_get zc_Mo 7 (by decide) qF_Mo_20 hM.mo rfl d_Mo_keeperNow_26 ?_
      refine z_callF0 (m_AL_size hs0 hst hM.sl) ym_AL_size zF_AL_size qM_Mo_94 zc_AL hM.sl d_Mo_keeperNow_29 rfl (Nat.le_of_ble_eq_true rfl) ⟨by decide, by decide⟩ ⟨Nat.le_of_ble_eq_true rfl, Nat.le_of_ble_eq_true rfl⟩ ?_
      refine z_icmp_ge 107 d_Mo_keeperNow_34 (by decide) (fun c_34 => ?_) (fun c_34 => ?_)
      · skip
        refine z_bipush (v := 7) d_Mo_keeperNow_107 (by decide) ?_
        refine z_newaI 7 qA_int (by decide) rfl (by decide) ⟨by decide, by decide⟩ d_Mo_keeperNow_109 (fun a ha hab => ?_)
        have hMo : ∀ w, zM d B V nk ns ne ec (zu G a w) := fun w => hM.out (hM.nn_ ha)
        refine z_dup d_Mo_keeperNow_111 rfl ?_
        refine z_iconst (v := (nI 0)) d_Mo_keeperNow_112 (by decide) ?_
        refine z_aload_n 3 d_Mo_keeperNow_113 rfl rfl ?_
        refine z_get zc_MK 0 (by decide) qF_Mo_96 ((hMo _).ke hki) rfl d_Mo_keeperNow_114 ?_
        refine z_iastN zu_s (show 0 < 7 by decide) (by decide) d_Mo_keeperNow_117 ?_
        refine z_one ?_
        refine z_dup d_Mo_keeperNow_118 rfl ?_
        refine z_iconst (v := (nI 1)) d_Mo_keeperNow_119 (by decide) ?_
        refine z_aload_n 3 d_Mo_keeperNow_120 rfl rfl ?_
        refine z_get zc_MK 1 (by decide) qF_Mo_193 ((hMo _).ke hki) rfl d_Mo_keeperNow_121 ?_
        refine z_iastN zu_s (show 1 < 7 by decide) (by decide) d_Mo_keeperNow_124 ?_
        refine z_one ?_
        refine z_dup d_Mo_keeperNow_125 rfl ?_
        refine z_iconst (v := (nI 2)) d_Mo_keeperNow_126 (by decide) ?_
        refine z_aload_n 3 d_Mo_keeperNow_127 rfl rfl ?_
        refine z_get zc_MK 2 (by decide) qF_Mo_196 ((hMo _).ke hki) rfl d_Mo_keeperNow_128 ?_
        refine z_iastN zu_s (show 2 < 7 by decide) (by decide) d_Mo_keeperNow_131 ?_
        refine z_one ?_
        refine z_dup d_Mo_keeperNow_132 rfl ?_
        refine z_iconst (v := (nI 3)) d_Mo_keeperNow_133 (by decide) ?_
        refine z_aload_n 3 d_Mo_keeperNow_134 rfl rfl ?_
        refine z_get zc_MK 3 (by decide) qF_Mo_59 ((hMo _).ke hki) rfl d_Mo_keeperNow_135 ?_
        refine z_iastN zu_s (show 3 < 7 by decide) (by decide) d_Mo_keeperNow_138 ?_
        refine z_one ?_
        refine z_dup d_Mo_keeperNow_139 rfl ?_
        refine z_iconst (v := (nI 4)) d_Mo_keeperNow_140 (by decide) ?_
        refine z_aload_n 3 d_Mo_keeperNow_141 rfl rfl ?_
        refine z_get zc_MK 4 (by decide) qF_Mo_184 ((hMo _).ke hki) rfl d_Mo_keeperNow_142 ?_
        refine z_if_eq 152 d_Mo_keeperNow_145 (by decide) (fun c_145 => ?_) (fun c_145 => ?_)
        · skip
          refine z_iconst (v := 0) d_Mo_keeperNow_152 (by decide) ?_
          refine z_iastN zu_s (show 4 < 7 by decide) (by decide) d_Mo_keeperNow_153 ?_
          refine z_one ?_
          refine z_dup d_Mo_keeperNow_154 rfl ?_
          refine z_iconst (v := (nI 5)) d_Mo_keeperNow_155 (by decide) ?_
          refine z_iload 2 d_Mo_keeperNow_156 rfl ?_
          refine z_iastN zu_s (show 5 < 7 by decide) (by decide) d_Mo_keeperNow_158 ?_
          refine z_one ?_
          refine z_dup d_Mo_keeperNow_159 rfl ?_
          refine z_bipush (v := (nI 6)) d_Mo_keeperNow_160 (by decide) ?_
          refine z_iload 1 d_Mo_keeperNow_162 rfl ?_
          refine z_iastN zu_s (show 6 < 7 by decide) (by decide) d_Mo_keeperNow_164 ?_
          refine z_one ?_
          refine z_astore (L' := [(6, _), (5, _), (4, _), (3, _), (0, _), (1, _), (2, _)]) d_Mo_keeperNow_165 (by decide) rfl ?_
          refine z_aload 0 d_Mo_keeperNow_167 rfl ?_
          refine z_iload_n 6 d_Mo_keeperNow_169 rfl rfl ?_
          refine z_ialdN zu_s (hw) (by decide) d_Mo_keeperNow_170 ?_
          exact z_iret rfl (⟨⟨_, rfl⟩, V, hMo _, zKp.rf, zFr.new ha⟩) (by first | decide | omega) (by first | decide | omega) d_Mo_keeperNow_171
        · skip
          refine z_iconst (v := 1) d_Mo_keeperNow_148 (by decide) ?_
          refine z_goto 153 d_Mo_keeperNow_149 (by decide) ?_
          refine z_iastN zu_s (show 4 < 7 by decide) (by decide) d_Mo_keeperNow_153 ?_
          refine z_one ?_
          refine z_dup d_Mo_keeperNow_154 rfl ?_
          refine z_iconst (v := (nI 5)) d_Mo_keeperNow_155 (by decide) ?_
          refine z_iload 2 d_Mo_keeperNow_156 rfl ?_
          refine z_iastN zu_s (show 5 < 7 by decide) (by decide) d_Mo_keeperNow_158 ?_
          refine z_one ?_
          refine z_dup d_Mo_keeperNow_159 rfl ?_
          refine z_bipush (v := (nI 6)) d_Mo_keeperNow_160 (by decide) ?_
          refine z_iload 1 d_Mo_keeperNow_162 rfl ?_
          refine z_iastN zu_s (show 6 < 7 by decide) (by decide) d_Mo_keeperNow_164 ?_
          refine z_one ?_
          refine z_astore (L' := [(6, _), (5, _), (4, _), (3, _), (0, _), (1, _), (2, _)]) d_Mo_keeperNow_165 (by decide) rfl ?_
          refine z_aload 0 d_Mo_keeperNow_167 rfl ?_
          refine z_iload_n 6 d_Mo_keeperNow_169 rfl rfl ?_
          refine z_ialdN zu_s (hw) (by decide) d_Mo_keeperNow_170 ?_
          exact z_iret rfl (⟨⟨_, rfl⟩, V, hMo _, zKp.rf, zFr.new ha⟩) (by first | decide | omega) (by first | decide | omega) d_Mo_keeperNow_171
      · skip
        have hi6 : i < ns := Nat.lt_of_not_le fun q => c_34 (nI_le q (by omega))
        refine z_iload 2 d_Mo_keeperNow_37 rfl ?_
        refine z_aload_n 4 d_Mo_keeperNow_39 rfl rfl ?_
        refine z_get zc_Mo 7 (by decide) qF_Mo_20 hM.mo rfl d_Mo_keeperNow_40 ?_
        refine z_iload 0 d_Mo_keeperNow_43 rfl ?_
        refine z_callF0 (m_AL_get hs0 hst (hM.sA hi6) hi6 (if_pos hi6)) ym_AL_get zF_AL_get qM_Mo_51 zc_AL (hM.sA hi6).1 d_Mo_keeperNow_45 rfl (Nat.le_of_ble_eq_true rfl) ⟨by decide, by decide⟩ ⟨Nat.le_of_ble_eq_true rfl, Nat.le_of_ble_eq_true rfl⟩ ?_
        refine z_castS zc_MS qK_Mo_47 (hM.se hi6).1 d_Mo_keeperNow_50 ?_
        refine z_get zc_MS 6 (by decide) qF_Mo_46 (hM.se hi6).1 rfl d_Mo_keeperNow_53 ?_
        refine z_iload_n 5 d_Mo_keeperNow_56 rfl rfl ?_
        refine z_ialdN (hM.se hi6).2.1 (hj) (by decide) d_Mo_keeperNow_57 ?_
        refine z_iconst (v := (-1)) d_Mo_keeperNow_58 (by decide) ?_
        refine z_icmp_ne 66 d_Mo_keeperNow_59 (by decide) (fun c_59 => ?_) (fun c_59 => ?_)
        · skip
          refine z_iconst (v := 1) d_Mo_keeperNow_66 (by decide) ?_
          refine z_iadd d_Mo_keeperNow_67 ?_
          refine z_istore (L' := [(4, _), (6, _), (5, _), (3, _), (0, _), (1, _), (2, _)]) d_Mo_keeperNow_68 (by decide) rfl ?_
          refine z_iload 2 d_Mo_keeperNow_70 rfl ?_
          refine z_aload_n 4 d_Mo_keeperNow_72 rfl rfl ?_
          refine z_get zc_Mo 7 (by decide) qF_Mo_20 hM.mo rfl d_Mo_keeperNow_73 ?_
          refine z_iload 1 d_Mo_keeperNow_76 rfl ?_
          refine z_callF0 (m_AL_get hs0 hst (hM.sA hi6) hi6 (if_pos hi6)) ym_AL_get zF_AL_get qM_Mo_51 zc_AL (hM.sA hi6).1 d_Mo_keeperNow_78 rfl (Nat.le_of_ble_eq_true rfl) ⟨by decide, by decide⟩ ⟨Nat.le_of_ble_eq_true rfl, Nat.le_of_ble_eq_true rfl⟩ ?_
          refine z_castS zc_MS qK_Mo_47 (hM.se hi6).1 d_Mo_keeperNow_83 ?_
          refine z_iload_n 5 d_Mo_keeperNow_86 rfl rfl ?_
          refine z_callV0 (m_MS_isStale hs0 hst (hM.se hi6) hj) ym_MS_isStale qM_Mo_190 qI_MS_isStale qV_MS_MS_isStale zc_MS (hM.se hi6).1 d_Mo_keeperNow_87 rfl (Nat.le_of_ble_eq_true rfl) ⟨by decide, by decide⟩ ⟨Nat.le_of_ble_eq_true rfl, Nat.le_of_ble_eq_true rfl⟩ ?_
          refine z_if_eq 97 d_Mo_keeperNow_90 (by decide) (fun c_90 => ?_) (fun c_90 => ?_)
          · skip
            refine z_iconst (v := 0) d_Mo_keeperNow_97 (by decide) ?_
            refine z_iadd d_Mo_keeperNow_98 ?_
            refine z_istore (L' := [(5, _), (4, _), (6, _), (3, _), (0, _), (1, _), (2, _)]) d_Mo_keeperNow_99 (by decide) rfl ?_
            refine z_iinc (v := nI (i + 1)) (L' := [(6, _), (5, _), (4, _), (3, _), (0, _), (1, _), (2, _)]) 2 d_Mo_keeperNow_101 rfl (nI_1 i) (by decide) rfl ?_
            refine z_goto 23 d_Mo_keeperNow_104 (by decide) ?_
            exact ih_23 (i + 1) _ _ (by omega) (by omega)
          · skip
            refine z_iconst (v := 1) d_Mo_keeperNow_93 (by decide) ?_
            refine z_goto 98 d_Mo_keeperNow_94 (by decide) ?_
            refine z_iadd d_Mo_keeperNow_98 ?_
            refine z_istore (L' := [(5, _), (4, _), (6, _), (3, _), (0, _), (1, _), (2, _)]) d_Mo_keeperNow_99 (by decide) rfl ?_
            refine z_iinc (v := nI (i + 1)) (L' := [(6, _), (5, _), (4, _), (3, _), (0, _), (1, _), (2, _)]) 2 d_Mo_keeperNow_101 rfl (nI_1 i) (by decide) rfl ?_
            refine z_goto 23 d_Mo_keeperNow_104 (by decide) ?_
            exact ih_23 (i + 1) _ _ (by omega) (by omega)
        · skip
          refine z_iconst (v := 0) d_Mo_keeperNow_62 (by decide) ?_
          refine z_goto 67 d_Mo_keeperNow_63 (by decide) ?_
          refine z_iadd d_Mo_keeperNow_67 ?_
          refine z_istore (L' := [(4, _), (6, _), (5, _), (3, _), (0, _), (1, _), (2, _)]) d_Mo_keeperNow_68 (by decide) rfl ?_
          refine z_iload 2 d_Mo_keeperNow_70 rfl ?_
          refine z_aload_n 4 d_Mo_keeperNow_72 rfl rfl ?_
          refine z_get zc_Mo 7 (by decide) qF_Mo_20 hM.mo rfl d_Mo_keeperNow_73 ?_
          refine z_iload 1 d_Mo_keeperNow_76 rfl ?_
          refine z_callF0 (m_AL_get hs0 hst (hM.sA hi6) hi6 (if_pos hi6)) ym_AL_get zF_AL_get qM_Mo_51 zc_AL (hM.sA hi6).1 d_Mo_keeperNow_78 rfl (Nat.le_of_ble_eq_true rfl) ⟨by decide, by decide⟩ ⟨Nat.le_of_ble_eq_true rfl, Nat.le_of_ble_eq_true rfl⟩ ?_
          refine z_castS zc_MS qK_Mo_47 (hM.se hi6).1 d_Mo_keeperNow_83 ?_
          refine z_iload_n 5 d_Mo_keeperNow_86 rfl rfl ?_
          refine z_callV0 (m_MS_isStale hs0 hst (hM.se hi6) hj) ym_MS_isStale qM_Mo_190 qI_MS_isStale qV_MS_MS_isStale zc_MS (hM.se hi6).1 d_Mo_keeperNow_87 rfl (Nat.le_of_ble_eq_true rfl) ⟨by decide, by decide⟩ ⟨Nat.le_of_ble_eq_true rfl, Nat.le_of_ble_eq_true rfl⟩ ?_
          refine z_if_eq 97 d_Mo_keeperNow_90 (by decide) (fun c_90 => ?_) (fun c_90 => ?_)
          · skip
            refine z_iconst (v := 0) d_Mo_keeperNow_97 (by decide) ?_
            refine z_iadd d_Mo_keeperNow_98 ?_
            refine z_istore (L' := [(5, _), (4, _), (6, _), (3, _), (0, _), (1, _), (2, _)]) d_Mo_keeperNow_99 (by decide) rfl ?_
            refine z_iinc (v := nI (i + 1)) (L' := [(6, _), (5, _), (4, _), (3, _), (0, _), (1, _), (2, _)]) 2 d_Mo_keeperNow_101 rfl (nI_1 i) (by decide) rfl ?_
            refine z_goto 23 d_Mo_keeperNow_104 (by decide) ?_
            exact ih_23 (i + 1) _ _ (by omega) (by omega)
          · skip
            refine z_iconst (v := 1) d_Mo_keeperNow_93 (by decide) ?_
            refine z_goto 98 d_Mo_keeperNow_94 (by decide) ?_
            refine z_iadd d_Mo_keeperNow_98 ?_
            refine z_istore (L' := [(5, _), (4, _), (6, _), (3, _), (0, _), (1, _), (2, _)]) d_Mo_keeperNow_99 (by decide) rfl ?_
            refine z_iinc (v := nI (i + 1)) (L' := [(6, _), (5, _), (4, _), (3, _), (0, _), (1, _), (2, _)]) 2 d_Mo_keeperNow_101 rfl (nI_1 i) (by decide) rfl ?_
            refine z_goto 23 d_Mo_keeperNow_104 (by decide) ?_
            exact ih_23 (i + 1) _ _ (by omega) (by omega)
  exact key_23 (ns + 1) 0 _ _ (by omega) (by omega)
theorem d_Mo_bought_0 : decode c_Mo_bought 0 = .ok (.iconst 0, 1) := by decide +kernel
theorem d_Mo_bought_1 : decode c_Mo_bought 1 = .ok (.istore_n 2, 1) := by decide +kernel
theorem d_Mo_bought_2 : decode c_Mo_bought 2 = .ok (.iconst 0, 1) := by decide +kernel
theorem d_Mo_bought_3 : decode c_Mo_bought 3 = .ok (.istore_n 3, 1) := by decide +kernel
theorem d_Mo_bought_4 : decode c_Mo_bought 4 = .ok (.iload_n 3, 1) := by decide +kernel
theorem d_Mo_bought_5 : decode c_Mo_bought 5 = .ok (.aload_n 1, 1) := by decide +kernel
theorem d_Mo_bought_6 : decode c_Mo_bought 6 = .ok (.getfield 69, 3) := by decide +kernel
theorem d_Mo_bought_9 : decode c_Mo_bought 9 = .ok (.if_icmp .ge 116, 3) := by decide +kernel
theorem d_Mo_bought_12 : decode c_Mo_bought 12 = .ok (.iconst (-1), 1) := by decide +kernel
theorem d_Mo_bought_13 : decode c_Mo_bought 13 = .ok (.istore 4, 2) := by decide +kernel
theorem d_Mo_bought_15 : decode c_Mo_bought 15 = .ok (.aload_n 0, 1) := by decide +kernel
theorem d_Mo_bought_16 : decode c_Mo_bought 16 = .ok (.getfield 16, 3) := by decide +kernel
theorem d_Mo_bought_19 : decode c_Mo_bought 19 = .ok (.invokeinterface 94 1, 5) := by decide +kernel
theorem d_Mo_bought_24 : decode c_Mo_bought 24 = .ok (.iconst 1, 1) := by decide +kernel
theorem d_Mo_bought_25 : decode c_Mo_bought 25 = .ok (.isub, 1) := by decide +kernel
theorem d_Mo_bought_26 : decode c_Mo_bought 26 = .ok (.istore 5, 2) := by decide +kernel
theorem d_Mo_bought_28 : decode c_Mo_bought 28 = .ok (.iload 5, 2) := by decide +kernel
theorem d_Mo_bought_30 : decode c_Mo_bought 30 = .ok (.ifCond .lt 74, 3) := by decide +kernel
theorem d_Mo_bought_33 : decode c_Mo_bought 33 = .ok (.aload_n 1, 1) := by decide +kernel
theorem d_Mo_bought_34 : decode c_Mo_bought 34 = .ok (.iload 5, 2) := by decide +kernel
theorem d_Mo_bought_36 : decode c_Mo_bought 36 = .ok (.invokevirtual 159, 3) := by decide +kernel
theorem d_Mo_bought_39 : decode c_Mo_bought 39 = .ok (.ifCond .eq 59, 3) := by decide +kernel
theorem d_Mo_bought_42 : decode c_Mo_bought 42 = .ok (.iload_n 2, 1) := by decide +kernel
theorem d_Mo_bought_43 : decode c_Mo_bought 43 = .ok (.iload 5, 2) := by decide +kernel
theorem d_Mo_bought_45 : decode c_Mo_bought 45 = .ok (.invokestatic 76, 3) := by decide +kernel
theorem d_Mo_bought_48 : decode c_Mo_bought 48 = .ok (.ifCond .ne 50, 3) := by decide +kernel
theorem d_Mo_bought_51 : decode c_Mo_bought 51 = .ok (.iload 4, 2) := by decide +kernel
theorem d_Mo_bought_53 : decode c_Mo_bought 53 = .ok (.iconst (-1), 1) := by decide +kernel
theorem d_Mo_bought_54 : decode c_Mo_bought 54 = .ok (.if_icmp .eq 40, 3) := by decide +kernel
theorem d_Mo_bought_57 : decode c_Mo_bought 57 = .ok (.aload_n 0, 1) := by decide +kernel
theorem d_Mo_bought_58 : decode c_Mo_bought 58 = .ok (.getfield 16, 3) := by decide +kernel
theorem d_Mo_bought_61 : decode c_Mo_bought 61 = .ok (.iload 5, 2) := by decide +kernel
theorem d_Mo_bought_63 : decode c_Mo_bought 63 = .ok (.invokeinterface 51 2, 5) := by decide +kernel
theorem d_Mo_bought_68 : decode c_Mo_bought 68 = .ok (.checkcast 57, 3) := by decide +kernel
theorem d_Mo_bought_71 : decode c_Mo_bought 71 = .ok (.getfield 193, 3) := by decide +kernel
theorem d_Mo_bought_74 : decode c_Mo_bought 74 = .ok (.aload_n 0, 1) := by decide +kernel
theorem d_Mo_bought_75 : decode c_Mo_bought 75 = .ok (.getfield 16, 3) := by decide +kernel
theorem d_Mo_bought_78 : decode c_Mo_bought 78 = .ok (.iload 4, 2) := by decide +kernel
theorem d_Mo_bought_80 : decode c_Mo_bought 80 = .ok (.invokeinterface 51 2, 5) := by decide +kernel
theorem d_Mo_bought_85 : decode c_Mo_bought 85 = .ok (.checkcast 57, 3) := by decide +kernel
theorem d_Mo_bought_88 : decode c_Mo_bought 88 = .ok (.getfield 193, 3) := by decide +kernel
theorem d_Mo_bought_91 : decode c_Mo_bought 91 = .ok (.if_icmp .gt 7, 3) := by decide +kernel
theorem d_Mo_bought_94 : decode c_Mo_bought 94 = .ok (.iload 5, 2) := by decide +kernel
theorem d_Mo_bought_96 : decode c_Mo_bought 96 = .ok (.istore 4, 2) := by decide +kernel
theorem d_Mo_bought_98 : decode c_Mo_bought 98 = .ok (.iinc 5 (-1), 3) := by decide +kernel
theorem d_Mo_bought_101 : decode c_Mo_bought 101 = .ok (.goto (-73), 3) := by decide +kernel
theorem d_Mo_bought_104 : decode c_Mo_bought 104 = .ok (.iload 4, 2) := by decide +kernel
theorem d_Mo_bought_106 : decode c_Mo_bought 106 = .ok (.iconst (-1), 1) := by decide +kernel
theorem d_Mo_bought_107 : decode c_Mo_bought 107 = .ok (.if_icmp .ne 5, 3) := by decide +kernel
theorem d_Mo_bought_110 : decode c_Mo_bought 110 = .ok (.iconst 0, 1) := by decide +kernel
theorem d_Mo_bought_111 : decode c_Mo_bought 111 = .ok (.ireturn, 1) := by decide +kernel
theorem d_Mo_bought_112 : decode c_Mo_bought 112 = .ok (.iload_n 2, 1) := by decide +kernel
theorem d_Mo_bought_113 : decode c_Mo_bought 113 = .ok (.iconst 1, 1) := by decide +kernel
theorem d_Mo_bought_114 : decode c_Mo_bought 114 = .ok (.iload 4, 2) := by decide +kernel
theorem d_Mo_bought_116 : decode c_Mo_bought 116 = .ok (.ishl, 1) := by decide +kernel
theorem d_Mo_bought_117 : decode c_Mo_bought 117 = .ok (.ior, 1) := by decide +kernel
theorem d_Mo_bought_118 : decode c_Mo_bought 118 = .ok (.istore_n 2, 1) := by decide +kernel
theorem d_Mo_bought_119 : decode c_Mo_bought 119 = .ok (.iinc 3 1, 3) := by decide +kernel
theorem d_Mo_bought_122 : decode c_Mo_bought 122 = .ok (.goto (-118), 3) := by decide +kernel
theorem d_Mo_bought_125 : decode c_Mo_bought 125 = .ok (.iload_n 2, 1) := by decide +kernel
theorem d_Mo_bought_126 : decode c_Mo_bought 126 = .ok (.ireturn, 1) := by decide +kernel
set_option maxHeartbeats 4000000 in
set_option maxRecDepth 100000 in
theorem m_Mo_bought {g0 : State} {d : zD} {l : Launch} {a0 : Array Value} (hs0 : zS0 d a0 g0) (hst : l.stackTraces = false) {G : zG} {B : Nat → Nat} {V : Nat → Nat → Int32} {nk ns ne ec : Nat} (hM : zM d B V nk ns ne ec G) {si : Nat} (hsi : si < ns) : zMet g0 d l y_Mo_bought c_Mo_bought 6 ((Option.some Jvm.ClassFile.FieldType.int)) 11 0 0 [.ref (B 0), .ref (B (200 + si))] (G) (zI1 G) (zNo) := by
  have hnk : nk ≤ 8 := hM.2.1
  have hns : ns ≤ 6 := hM.2.2.1
  have hne : ne ≤ 64 := hM.2.2.2.1
  have hp2 : 2 ^ nk ≤ 256 := Nat.pow_le_pow_right (n := 2) (by decide) hnk
  obtain ⟨t, ht1, ht4, ht⟩ := hM.tn hsi
  refine z_entry hs0 hst (by decide) (Nat.le_of_ble_eq_true rfl) (fun p e s m args below meth c => ?_)
  refine z_iconst (v := 0) d_Mo_bought_0 (by decide) ?_
  refine z_istore_n (L' := [(2, _), (0, _), (1, _)]) d_Mo_bought_1 rfl (by decide) rfl ?_
  refine z_iconst (v := (nI 0)) d_Mo_bought_2 (by decide) ?_
  refine z_istore_n (L' := [(3, _), (2, _), (0, _), (1, _)]) d_Mo_bought_3 rfl (by decide) rfl ?_
  have key_4 : ∀ (n : Nat) (i : Nat) (v : Int32), t - i < n → (i ≤ t) → Z g0 d y_Mo_bought c_Mo_bought 6 ((Option.some Jvm.ClassFile.FieldType.int)) [] p l e (zR 11 0 0) s m args below meth c (vx_MQ below (zQc g0 d (zI1 G)) (zXc g0 d (zNo)) args s 0 0 (zA g0)) 0 0 (G) [(3, .int (nI i)), (2, .int v), (0, .ref (B 0)), (1, .ref (B (200 + si)))] [] 4 := by
    intro n
    induction n with
    | zero => intro i v h0; exact absurd h0 (Nat.not_lt_zero _)
    | succ n ih_4 =>
      intro i v hm_4 hi
      refine z_iload_n 0 d_Mo_bought_4 rfl rfl ?_
      refine z_aload_n 3 d_Mo_bought_5 rfl rfl ?_
      refine z_get zc_MS 0 (by decide) qF_Mo_69 (hM.se hsi).1 rfl d_Mo_bought_6 ?_
      rw [ht]
      refine z_icmp_ge 125 d_Mo_bought_9 (by decide) (fun c_9 => ?_) (fun c_9 => ?_)
      · skip
        refine z_iload_n 1 d_Mo_bought_125 rfl rfl ?_
        exact z_iret rfl (⟨⟨_, rfl⟩, rfl⟩) (by first | decide | omega) (by first | decide | omega) d_Mo_bought_126
      · skip
        have hi6 : i < t := Nat.lt_of_not_le fun q => c_9 (nI_le q (by omega))
        refine z_iconst (v := (-1)) d_Mo_bought_12 (by decide) ?_
        refine z_istore (L' := [(4, _), (3, _), (2, _), (0, _), (1, _)]) d_Mo_bought_13 (by decide) rfl ?_
        refine z_aload_n 3 d_Mo_bought_15 rfl rfl ?_
        refine z_get zc_Mo 6 (by decide) qF_Mo_16 hM.mo rfl d_Mo_bought_16 ?_
        refine z_callF0 (m_AL_size hs0 hst hM.kl) ym_AL_size zF_AL_size qM_Mo_94 zc_AL hM.kl d_Mo_bought_19 rfl (Nat.le_of_ble_eq_true rfl) ⟨Nat.zero_le _, Nat.zero_le _⟩ ⟨Nat.le_of_ble_eq_true rfl, Nat.le_of_ble_eq_true rfl⟩ ?_
        refine z_iconst (v := (nI 1)) d_Mo_bought_24 (by decide) ?_
        refine z_isub d_Mo_bought_25 ?_
        refine z_istore (L' := [(5, _), (4, _), (3, _), (2, _), (0, _), (1, _)]) d_Mo_bought_26 (by decide) rfl ?_
        have key_28 : ∀ (n : Nat) (j : Nat) (w : Int32), j < n → (j ≤ nk) → (w = -1 ∨ ∃ b, b < nk ∧ w = nI b) → Z g0 d y_Mo_bought c_Mo_bought 6 ((Option.some Jvm.ClassFile.FieldType.int)) [] p l e (zR 11 0 0) s m args below meth c (vx_MQ below (zQc g0 d (zI1 G)) (zXc g0 d (zNo)) args s 0 0 (zA g0)) 0 0 (G) [(5, .int (nI j - 1)), (4, .int w), (3, .int (nI i)), (2, .int v), (0, .ref (B 0)), (1, .ref (B (200 + si)))] [] 28 := by
          intro n
          induction n with
          | zero => intro j w h0; exact absurd h0 (Nat.not_lt_zero _)
          | succ n ih_28 =>
            intro j w hm_28 hj hw
            refine z_iload 0 d_Mo_bought_28 rfl ?_
            refine z_if_lt 104 d_Mo_bought_30 (by decide) (fun c_30 => ?_) (fun c_30 => ?_)
            · skip
              refine z_iload 1 d_Mo_bought_104 rfl ?_
              refine z_iconst (v := (-1)) d_Mo_bought_106 (by decide) ?_
              refine z_icmp_ne 112 d_Mo_bought_107 (by decide) (fun c_107 => ?_) (fun c_107 => ?_)
              · skip
                refine z_iload_n 3 d_Mo_bought_112 rfl rfl ?_
                refine z_iconst (v := 1) d_Mo_bought_113 (by decide) ?_
                refine z_iload 1 d_Mo_bought_114 rfl ?_
                refine z_ishl d_Mo_bought_116 ?_
                refine z_ior d_Mo_bought_117 ?_
                refine z_istore_n (L' := [(2, _), (5, _), (4, _), (3, _), (0, _), (1, _)]) d_Mo_bought_118 rfl (by decide) rfl ?_
                refine z_iinc (v := nI (i + 1)) (L' := [(3, _), (2, _), (5, _), (4, _), (0, _), (1, _)]) 3 d_Mo_bought_119 rfl (nI_1 i) (by decide) rfl ?_
                refine z_goto 4 d_Mo_bought_122 (by decide) ?_
                refine z_sub (L' := [(3, _), (2, _), (0, _), (1, _)]) [0, 1, 4, 5] rfl ?_
                exact ih_4 (i + 1) _ (by omega) (by omega)
              · skip
                refine z_iconst (v := 0) d_Mo_bought_110 (by decide) ?_
                exact z_iret rfl (⟨⟨_, rfl⟩, rfl⟩) (by first | decide | omega) (by first | decide | omega) d_Mo_bought_111
            · skip
              have hj1 : 1 ≤ j := Nat.pos_of_ne_zero fun e => c_30 (by subst e; decide)
              have hj6 : j - 1 < nk := by omega
              have e1 : nI j - 1 = nI (j - 1) := nI_s1 hj1 (by omega)
              refine z_aload_n 5 d_Mo_bought_33 rfl rfl ?_
              refine z_iload 0 d_Mo_bought_34 rfl ?_
              refine z_topv e1 ?_
              refine z_callV0 (m_MS_isGood hs0 hst (hM.se hsi) (show j - 1 < 8 by omega)) ym_MS_isGood qM_Mo_159 qI_MS_isGood qV_MS_MS_isGood zc_MS (hM.se hsi).1 d_Mo_bought_36 rfl (Nat.le_of_ble_eq_true rfl) ⟨Nat.zero_le _, Nat.zero_le _⟩ ⟨Nat.le_of_ble_eq_true rfl, Nat.le_of_ble_eq_true rfl⟩ ?_
              refine z_if_eq 98 d_Mo_bought_39 (by decide) (fun c_39 => ?_) (fun c_39 => ?_)
              · skip
                refine z_iinc (v := nI (j - 1) - 1) (L' := [(5, _), (4, _), (3, _), (2, _), (0, _), (1, _)]) 0 d_Mo_bought_98 rfl (by rw [z_m1, e1]) (by decide) rfl ?_
                refine z_goto 28 d_Mo_bought_101 (by decide) ?_
                first
                  | exact ih_28 (j - 1) _ (by omega) (by omega) (Or.inr ⟨j - 1, hj6, rfl⟩)
                  | exact ih_28 (j - 1) _ (by omega) (by omega) hw
                  | exact ih_28 (j - 1) _ (by omega) (by omega) (Or.inr ⟨b, hb6, rfl⟩)
              · skip
                refine z_iload_n 3 d_Mo_bought_42 rfl rfl ?_
                refine z_iload 0 d_Mo_bought_43 rfl ?_
                refine z_topv e1 ?_
                refine z_callS0 (m_Mo_has hs0 hst v (nI (j - 1))) ym_Mo_has qM_Mo_76 qS_Mo_has d_Mo_bought_45 rfl (Nat.le_of_ble_eq_true rfl) ⟨Nat.zero_le _, Nat.zero_le _⟩ ⟨Nat.le_of_ble_eq_true rfl, Nat.le_of_ble_eq_true rfl⟩ ?_
                refine z_if_ne 98 d_Mo_bought_48 (by decide) (fun c_48 => ?_) (fun c_48 => ?_)
                · skip
                  refine z_iinc (v := nI (j - 1) - 1) (L' := [(5, _), (4, _), (3, _), (2, _), (0, _), (1, _)]) 0 d_Mo_bought_98 rfl (by rw [z_m1, e1]) (by decide) rfl ?_
                  refine z_goto 28 d_Mo_bought_101 (by decide) ?_
                  first
                    | exact ih_28 (j - 1) _ (by omega) (by omega) (Or.inr ⟨j - 1, hj6, rfl⟩)
                    | exact ih_28 (j - 1) _ (by omega) (by omega) hw
                    | exact ih_28 (j - 1) _ (by omega) (by omega) (Or.inr ⟨b, hb6, rfl⟩)
                · skip
                  refine z_iload 1 d_Mo_bought_51 rfl ?_
                  refine z_iconst (v := (-1)) d_Mo_bought_53 (by decide) ?_
                  refine z_icmp_eq 94 d_Mo_bought_54 (by decide) (fun c_54 => ?_) (fun c_54 => ?_)
                  · skip
                    refine z_iload 0 d_Mo_bought_94 rfl ?_
                    refine z_topv e1 ?_
                    refine z_istore (L' := [(4, _), (5, _), (3, _), (2, _), (0, _), (1, _)]) d_Mo_bought_96 (by decide) rfl ?_
                    refine z_iinc (v := nI (j - 1) - 1) (L' := [(5, _), (4, _), (3, _), (2, _), (0, _), (1, _)]) 1 d_Mo_bought_98 rfl (by rw [z_m1, e1]) (by decide) rfl ?_
                    refine z_goto 28 d_Mo_bought_101 (by decide) ?_
                    first
                      | exact ih_28 (j - 1) _ (by omega) (by omega) (Or.inr ⟨j - 1, hj6, rfl⟩)
                      | exact ih_28 (j - 1) _ (by omega) (by omega) hw
                      | exact ih_28 (j - 1) _ (by omega) (by omega) (Or.inr ⟨b, hb6, rfl⟩)
                  · skip
                    obtain ⟨b, hb6, rfl⟩ := hw.resolve_left c_54
                    refine z_aload_n 4 d_Mo_bought_57 rfl rfl ?_
                    refine z_get zc_Mo 6 (by decide) qF_Mo_16 hM.mo rfl d_Mo_bought_58 ?_
                    refine z_iload 0 d_Mo_bought_61 rfl ?_
                    refine z_topv e1 ?_
                    refine z_callF0 (m_AL_get hs0 hst (hM.kA hj6) hj6 (if_pos hj6)) ym_AL_get zF_AL_get qM_Mo_51 zc_AL (hM.kA hj6).1 d_Mo_bought_63 rfl (Nat.le_of_ble_eq_true rfl) ⟨Nat.zero_le _, Nat.zero_le _⟩ ⟨Nat.le_of_ble_eq_true rfl, Nat.le_of_ble_eq_true rfl⟩ ?_
                    refine z_castS zc_MK qK_Mo_57 (hM.ke hj6) d_Mo_bought_68 ?_
                    refine z_get zc_MK 1 (by decide) qF_Mo_193 (hM.ke hj6) rfl d_Mo_bought_71 ?_
                    refine z_aload_n 4 d_Mo_bought_74 rfl rfl ?_
                    refine z_get zc_Mo 6 (by decide) qF_Mo_16 hM.mo rfl d_Mo_bought_75 ?_
                    refine z_iload 1 d_Mo_bought_78 rfl ?_
                    refine z_callF0 (m_AL_get hs0 hst (hM.kA hb6) hb6 (if_pos hb6)) ym_AL_get zF_AL_get qM_Mo_51 zc_AL (hM.kA hb6).1 d_Mo_bought_80 rfl (Nat.le_of_ble_eq_true rfl) ⟨Nat.zero_le _, Nat.zero_le _⟩ ⟨Nat.le_of_ble_eq_true rfl, Nat.le_of_ble_eq_true rfl⟩ ?_
                    refine z_castS zc_MK qK_Mo_57 (hM.ke hb6) d_Mo_bought_85 ?_
                    refine z_get zc_MK 1 (by decide) qF_Mo_193 (hM.ke hb6) rfl d_Mo_bought_88 ?_
                    refine z_icmp_gt 98 d_Mo_bought_91 (by decide) (fun c_91 => ?_) (fun c_91 => ?_)
                    · skip
                      refine z_iinc (v := nI (j - 1) - 1) (L' := [(5, _), (4, _), (3, _), (2, _), (0, _), (1, _)]) 0 d_Mo_bought_98 rfl (by rw [z_m1, e1]) (by decide) rfl ?_
                      refine z_goto 28 d_Mo_bought_101 (by decide) ?_
                      first
                        | exact ih_28 (j - 1) _ (by omega) (by omega) (Or.inr ⟨j - 1, hj6, rfl⟩)
                        | exact ih_28 (j - 1) _ (by omega) (by omega) hw
                        | exact ih_28 (j - 1) _ (by omega) (by omega) (Or.inr ⟨b, hb6, rfl⟩)
                    · skip
                      refine z_iload 0 d_Mo_bought_94 rfl ?_
                      refine z_topv e1 ?_
                      refine z_istore (L' := [(4, _), (5, _), (3, _), (2, _), (0, _), (1, _)]) d_Mo_bought_96 (by decide) rfl ?_
                      refine z_iinc (v := nI (j - 1) - 1) (L' := [(5, _), (4, _), (3, _), (2, _), (0, _), (1, _)]) 1 d_Mo_bought_98 rfl (by rw [z_m1, e1]) (by decide) rfl ?_
                      refine z_goto 28 d_Mo_bought_101 (by decide) ?_
                      first
                        | exact ih_28 (j - 1) _ (by omega) (by omega) (Or.inr ⟨j - 1, hj6, rfl⟩)
                        | exact ih_28 (j - 1) _ (by omega) (by omega) hw
                        | exact ih_28 (j - 1) _ (by omega) (by omega) (Or.inr ⟨b, hb6, rfl⟩)
        exact key_28 (nk + 1) nk _ (by omega) (by omega) (Or.inl rfl)
  exact key_4 (t + 1) 0 _ (by omega) (by omega)
theorem d_Mo_secretNow_0 : decode c_Mo_secretNow 0 = .ok (.aload_n 0, 1) := by decide +kernel
theorem d_Mo_secretNow_1 : decode c_Mo_secretNow 1 = .ok (.getfield 20, 3) := by decide +kernel
theorem d_Mo_secretNow_4 : decode c_Mo_secretNow 4 = .ok (.iload_n 1, 1) := by decide +kernel
theorem d_Mo_secretNow_5 : decode c_Mo_secretNow 5 = .ok (.invokeinterface 51 2, 5) := by decide +kernel
theorem d_Mo_secretNow_10 : decode c_Mo_secretNow 10 = .ok (.checkcast 47, 3) := by decide +kernel
theorem d_Mo_secretNow_13 : decode c_Mo_secretNow 13 = .ok (.astore_n 3, 1) := by decide +kernel
theorem d_Mo_secretNow_14 : decode c_Mo_secretNow 14 = .ok (.aload_n 0, 1) := by decide +kernel
theorem d_Mo_secretNow_15 : decode c_Mo_secretNow 15 = .ok (.aload_n 3, 1) := by decide +kernel
theorem d_Mo_secretNow_16 : decode c_Mo_secretNow 16 = .ok (.invokevirtual 203, 3) := by decide +kernel
theorem d_Mo_secretNow_19 : decode c_Mo_secretNow 19 = .ok (.istore 4, 2) := by decide +kernel
theorem d_Mo_secretNow_21 : decode c_Mo_secretNow 21 = .ok (.bipush 9, 2) := by decide +kernel
theorem d_Mo_secretNow_23 : decode c_Mo_secretNow 23 = .ok (.newarray .int, 2) := by decide +kernel
theorem d_Mo_secretNow_25 : decode c_Mo_secretNow 25 = .ok (.dup, 1) := by decide +kernel
theorem d_Mo_secretNow_26 : decode c_Mo_secretNow 26 = .ok (.iconst 0, 1) := by decide +kernel
theorem d_Mo_secretNow_27 : decode c_Mo_secretNow 27 = .ok (.aload_n 3, 1) := by decide +kernel
theorem d_Mo_secretNow_28 : decode c_Mo_secretNow 28 = .ok (.getfield 69, 3) := by decide +kernel
theorem d_Mo_secretNow_31 : decode c_Mo_secretNow 31 = .ok (.iastore, 1) := by decide +kernel
theorem d_Mo_secretNow_32 : decode c_Mo_secretNow 32 = .ok (.dup, 1) := by decide +kernel
theorem d_Mo_secretNow_33 : decode c_Mo_secretNow 33 = .ok (.iconst 1, 1) := by decide +kernel
theorem d_Mo_secretNow_34 : decode c_Mo_secretNow 34 = .ok (.aload_n 3, 1) := by decide +kernel
theorem d_Mo_secretNow_35 : decode c_Mo_secretNow 35 = .ok (.getfield 99, 3) := by decide +kernel
theorem d_Mo_secretNow_38 : decode c_Mo_secretNow 38 = .ok (.iastore, 1) := by decide +kernel
theorem d_Mo_secretNow_39 : decode c_Mo_secretNow 39 = .ok (.dup, 1) := by decide +kernel
theorem d_Mo_secretNow_40 : decode c_Mo_secretNow 40 = .ok (.iconst 2, 1) := by decide +kernel
theorem d_Mo_secretNow_41 : decode c_Mo_secretNow 41 = .ok (.aload_n 3, 1) := by decide +kernel
theorem d_Mo_secretNow_42 : decode c_Mo_secretNow 42 = .ok (.getfield 105, 3) := by decide +kernel
theorem d_Mo_secretNow_45 : decode c_Mo_secretNow 45 = .ok (.iastore, 1) := by decide +kernel
theorem d_Mo_secretNow_46 : decode c_Mo_secretNow 46 = .ok (.dup, 1) := by decide +kernel
theorem d_Mo_secretNow_47 : decode c_Mo_secretNow 47 = .ok (.iconst 3, 1) := by decide +kernel
theorem d_Mo_secretNow_48 : decode c_Mo_secretNow 48 = .ok (.aload_n 3, 1) := by decide +kernel
theorem d_Mo_secretNow_49 : decode c_Mo_secretNow 49 = .ok (.getfield 153, 3) := by decide +kernel
theorem d_Mo_secretNow_52 : decode c_Mo_secretNow 52 = .ok (.iastore, 1) := by decide +kernel
theorem d_Mo_secretNow_53 : decode c_Mo_secretNow 53 = .ok (.dup, 1) := by decide +kernel
theorem d_Mo_secretNow_54 : decode c_Mo_secretNow 54 = .ok (.iconst 4, 1) := by decide +kernel
theorem d_Mo_secretNow_55 : decode c_Mo_secretNow 55 = .ok (.aload_n 3, 1) := by decide +kernel
theorem d_Mo_secretNow_56 : decode c_Mo_secretNow 56 = .ok (.invokevirtual 62, 3) := by decide +kernel
theorem d_Mo_secretNow_59 : decode c_Mo_secretNow 59 = .ok (.iastore, 1) := by decide +kernel
theorem d_Mo_secretNow_60 : decode c_Mo_secretNow 60 = .ok (.dup, 1) := by decide +kernel
theorem d_Mo_secretNow_61 : decode c_Mo_secretNow 61 = .ok (.iconst 5, 1) := by decide +kernel
theorem d_Mo_secretNow_62 : decode c_Mo_secretNow 62 = .ok (.aload_n 3, 1) := by decide +kernel
theorem d_Mo_secretNow_63 : decode c_Mo_secretNow 63 = .ok (.invokevirtual 156, 3) := by decide +kernel
theorem d_Mo_secretNow_66 : decode c_Mo_secretNow 66 = .ok (.iastore, 1) := by decide +kernel
theorem d_Mo_secretNow_67 : decode c_Mo_secretNow 67 = .ok (.dup, 1) := by decide +kernel
theorem d_Mo_secretNow_68 : decode c_Mo_secretNow 68 = .ok (.bipush 6, 2) := by decide +kernel
theorem d_Mo_secretNow_70 : decode c_Mo_secretNow 70 = .ok (.aload_n 3, 1) := by decide +kernel
theorem d_Mo_secretNow_71 : decode c_Mo_secretNow 71 = .ok (.getfield 108, 3) := by decide +kernel
theorem d_Mo_secretNow_74 : decode c_Mo_secretNow 74 = .ok (.invokestatic 66, 3) := by decide +kernel
theorem d_Mo_secretNow_77 : decode c_Mo_secretNow 77 = .ok (.iastore, 1) := by decide +kernel
theorem d_Mo_secretNow_78 : decode c_Mo_secretNow 78 = .ok (.dup, 1) := by decide +kernel
theorem d_Mo_secretNow_79 : decode c_Mo_secretNow 79 = .ok (.bipush 7, 2) := by decide +kernel
theorem d_Mo_secretNow_81 : decode c_Mo_secretNow 81 = .ok (.iload 4, 2) := by decide +kernel
theorem d_Mo_secretNow_83 : decode c_Mo_secretNow 83 = .ok (.ifCond .ne 7, 3) := by decide +kernel
theorem d_Mo_secretNow_86 : decode c_Mo_secretNow 86 = .ok (.iconst (-1), 1) := by decide +kernel
theorem d_Mo_secretNow_87 : decode c_Mo_secretNow 87 = .ok (.goto 9, 3) := by decide +kernel
theorem d_Mo_secretNow_90 : decode c_Mo_secretNow 90 = .ok (.aload_n 0, 1) := by decide +kernel
theorem d_Mo_secretNow_91 : decode c_Mo_secretNow 91 = .ok (.iload 4, 2) := by decide +kernel
theorem d_Mo_secretNow_93 : decode c_Mo_secretNow 93 = .ok (.invokevirtual 207, 3) := by decide +kernel
theorem d_Mo_secretNow_96 : decode c_Mo_secretNow 96 = .ok (.iastore, 1) := by decide +kernel
theorem d_Mo_secretNow_97 : decode c_Mo_secretNow 97 = .ok (.dup, 1) := by decide +kernel
theorem d_Mo_secretNow_98 : decode c_Mo_secretNow 98 = .ok (.bipush 8, 2) := by decide +kernel
theorem d_Mo_secretNow_100 : decode c_Mo_secretNow 100 = .ok (.iload 4, 2) := by decide +kernel
theorem d_Mo_secretNow_102 : decode c_Mo_secretNow 102 = .ok (.iastore, 1) := by decide +kernel
theorem d_Mo_secretNow_103 : decode c_Mo_secretNow 103 = .ok (.astore 5, 2) := by decide +kernel
theorem d_Mo_secretNow_105 : decode c_Mo_secretNow 105 = .ok (.aload 5, 2) := by decide +kernel
theorem d_Mo_secretNow_107 : decode c_Mo_secretNow 107 = .ok (.iload_n 2, 1) := by decide +kernel
theorem d_Mo_secretNow_108 : decode c_Mo_secretNow 108 = .ok (.iaload, 1) := by decide +kernel
theorem d_Mo_secretNow_109 : decode c_Mo_secretNow 109 = .ok (.ireturn, 1) := by decide +kernel
set_option maxHeartbeats 4000000 in
set_option maxRecDepth 100000 in
theorem m_Mo_secretNow {g0 : State} {d : zD} {l : Launch} {a0 : Array Value} (hs0 : zS0 d a0 g0) (hst : l.stackTraces = false) {G : zG} {B : Nat → Nat} {V : Nat → Nat → Int32} {nk ns ne ec : Nat} (hM : zM d B V nk ns ne ec G) {si : Nat} (hsi : si < ns) {w : Nat} (hw : w < 9) : zMet g0 d l y_Mo_secretNow c_Mo_secretNow 6 ((Option.some Jvm.ClassFile.FieldType.int)) 12 1 9 [.ref (B 0), .int (nI si), .int (nI w)] (G) (mTs d B nk ns ne ec V G zrI) (zNo) := by
  have hnk : nk ≤ 8 := hM.2.1
  have hns : ns ≤ 6 := hM.2.2.1
  have hne : ne ≤ 64 := hM.2.2.2.1
  have hp2 : 2 ^ nk ≤ 256 := Nat.pow_le_pow_right (n := 2) (by decide) hnk
  refine z_entry hs0 hst (by decide) (Nat.le_of_ble_eq_true rfl) (fun p e s m args below meth c => ?_)
  refine z_aload_n 0 d_Mo_secretNow_0 rfl rfl ?_
  refine z_get zc_Mo 7 (by decide) qF_Mo_20 hM.mo rfl d_Mo_secretNow_1 ?_
  refine z_iload_n 1 d_Mo_secretNow_4 rfl rfl ?_
  refine z_callF0 (m_AL_get hs0 hst (hM.sA hsi) hsi (if_pos hsi)) ym_AL_get zF_AL_get qM_Mo_51 zc_AL (hM.sA hsi).1 d_Mo_secretNow_5 rfl (Nat.le_of_ble_eq_true rfl) ⟨by decide, by decide⟩ ⟨Nat.le_of_ble_eq_true rfl, Nat.le_of_ble_eq_true rfl⟩ ?_
  refine z_castS zc_MS qK_Mo_47 (hM.se hsi).1 d_Mo_secretNow_10 ?_
  refine z_astore_n (L' := [(3, _), (0, _), (1, _), (2, _)]) d_Mo_secretNow_13 rfl (by decide) rfl ?_
  refine z_aload_n 1 d_Mo_secretNow_14 rfl rfl ?_
  refine z_aload_n 0 d_Mo_secretNow_15 rfl rfl ?_
  refine z_callVp0 (m_Mo_bought hs0 hst hM hsi) ym_Mo_bought qM_Mo_203 qI_Mo_bought qV_Mo_Mo_bought zc_Mo hM.mo d_Mo_secretNow_16 rfl (Nat.le_of_ble_eq_true rfl) ⟨by decide, by decide⟩ ⟨Nat.le_of_ble_eq_true rfl, Nat.le_of_ble_eq_true rfl⟩ (fun r_16 G_16 hp_16 => ?_)
  obtain ⟨⟨v_16, rfl⟩, rfl⟩ := hp_16
  refine z_istore (L' := [(4, _), (3, _), (0, _), (1, _), (2, _)]) d_Mo_secretNow_19 (by decide) rfl ?_
  refine z_bipush (v := 9) d_Mo_secretNow_21 (by decide) ?_
  refine z_newaI 9 qA_int (by decide) rfl (by decide) ⟨by decide, by decide⟩ d_Mo_secretNow_23 (fun a ha hab => ?_)
  have hMo : ∀ w, zM d B V nk ns ne ec (zu G a w) := fun w => hM.out (hM.nn_ ha)
  refine z_dup d_Mo_secretNow_25 rfl ?_
  refine z_iconst (v := (nI 0)) d_Mo_secretNow_26 (by decide) ?_
  refine z_aload_n 1 d_Mo_secretNow_27 rfl rfl ?_
  refine z_get zc_MS 0 (by decide) qF_Mo_69 ((hMo _).se hsi).1 rfl d_Mo_secretNow_28 ?_
  refine z_iastN zu_s (show 0 < 9 by decide) (by decide) d_Mo_secretNow_31 ?_
  refine z_one ?_
  refine z_dup d_Mo_secretNow_32 rfl ?_
  refine z_iconst (v := (nI 1)) d_Mo_secretNow_33 (by decide) ?_
  refine z_aload_n 1 d_Mo_secretNow_34 rfl rfl ?_
  refine z_get zc_MS 1 (by decide) qF_Mo_99 ((hMo _).se hsi).1 rfl d_Mo_secretNow_35 ?_
  refine z_iastN zu_s (show 1 < 9 by decide) (by decide) d_Mo_secretNow_38 ?_
  refine z_one ?_
  refine z_dup d_Mo_secretNow_39 rfl ?_
  refine z_iconst (v := (nI 2)) d_Mo_secretNow_40 (by decide) ?_
  refine z_aload_n 1 d_Mo_secretNow_41 rfl rfl ?_
  refine z_get zc_MS 2 (by decide) qF_Mo_105 ((hMo _).se hsi).1 rfl d_Mo_secretNow_42 ?_
  refine z_iastN zu_s (show 2 < 9 by decide) (by decide) d_Mo_secretNow_45 ?_
  refine z_one ?_
  refine z_dup d_Mo_secretNow_46 rfl ?_
  refine z_iconst (v := (nI 3)) d_Mo_secretNow_47 (by decide) ?_
  refine z_aload_n 1 d_Mo_secretNow_48 rfl rfl ?_
  refine z_get zc_MS 3 (by decide) qF_Mo_153 ((hMo _).se hsi).1 rfl d_Mo_secretNow_49 ?_
  refine z_iastN zu_s (show 3 < 9 by decide) (by decide) d_Mo_secretNow_52 ?_
  refine z_one ?_
  refine z_dup d_Mo_secretNow_53 rfl ?_
  refine z_iconst (v := (nI 4)) d_Mo_secretNow_54 (by decide) ?_
  refine z_aload_n 1 d_Mo_secretNow_55 rfl rfl ?_
  refine z_callV0 (m_MS_good hs0 hst ((hMo _).se hsi)) ym_MS_good qM_Mo_62 qI_MS_good qV_MS_MS_good zc_MS ((hMo _).se hsi).1 d_Mo_secretNow_56 rfl (Nat.le_of_ble_eq_true rfl) ⟨by decide, by decide⟩ ⟨Nat.le_of_ble_eq_true rfl, Nat.le_of_ble_eq_true rfl⟩ ?_
  refine z_iastN zu_s (show 4 < 9 by decide) (by decide) d_Mo_secretNow_59 ?_
  refine z_one ?_
  refine z_dup d_Mo_secretNow_60 rfl ?_
  refine z_iconst (v := (nI 5)) d_Mo_secretNow_61 (by decide) ?_
  refine z_aload_n 1 d_Mo_secretNow_62 rfl rfl ?_
  refine z_callV0 (m_MS_stale hs0 hst ((hMo _).se hsi)) ym_MS_stale qM_Mo_156 qI_MS_stale qV_MS_MS_stale zc_MS ((hMo _).se hsi).1 d_Mo_secretNow_63 rfl (Nat.le_of_ble_eq_true rfl) ⟨by decide, by decide⟩ ⟨Nat.le_of_ble_eq_true rfl, Nat.le_of_ble_eq_true rfl⟩ ?_
  refine z_iastN zu_s (show 5 < 9 by decide) (by decide) d_Mo_secretNow_66 ?_
  refine z_one ?_
  refine z_dup d_Mo_secretNow_67 rfl ?_
  refine z_bipush (v := (nI 6)) d_Mo_secretNow_68 (by decide) ?_
  refine z_aload_n 1 d_Mo_secretNow_70 rfl rfl ?_
  refine z_get zc_MS 4 (by decide) qF_Mo_108 ((hMo _).se hsi).1 rfl d_Mo_secretNow_71 ?_
  refine z_callSp0 ((m_Mo_sizeA hs0 hst _)) ym_Mo_size qM_Mo_66 qS_Mo_size d_Mo_secretNow_74 rfl (Nat.le_of_ble_eq_true rfl) ⟨by decide, by decide⟩ ⟨Nat.le_of_ble_eq_true rfl, Nat.le_of_ble_eq_true rfl⟩ (fun r_74 G_74 hp_74 => ?_)
  obtain ⟨⟨v_74, rfl⟩, rfl⟩ := hp_74
  refine z_iastN zu_s (show 6 < 9 by decide) (by decide) d_Mo_secretNow_77 ?_
  refine z_one ?_
  refine z_dup d_Mo_secretNow_78 rfl ?_
  refine z_bipush (v := (nI 7)) d_Mo_secretNow_79 (by decide) ?_
  refine z_iload 0 d_Mo_secretNow_81 rfl ?_
  refine z_if_ne 90 d_Mo_secretNow_83 (by decide) (fun c_83 => ?_) (fun c_83 => ?_)
  · skip
    refine z_aload_n 2 d_Mo_secretNow_90 rfl rfl ?_
    refine z_iload 0 d_Mo_secretNow_91 rfl ?_
    refine z_callVp1 (m_Mo_priceOf hs0 hst (hMo _) _) ym_Mo_priceOf qM_Mo_207 qI_Mo_priceOf qV_Mo_Mo_priceOf zc_Mo (hMo _).mo d_Mo_secretNow_93 rfl (Nat.le_of_ble_eq_true rfl) ⟨by decide, by decide⟩ ⟨Nat.le_of_ble_eq_true rfl, Nat.le_of_ble_eq_true rfl⟩ (fun r_93 G_93 hp_93 => ?_)
    obtain ⟨⟨v_93, rfl⟩, rfl⟩ := hp_93
    refine z_iastN zu_s (show 7 < 9 by decide) (by decide) d_Mo_secretNow_96 ?_
    refine z_one ?_
    refine z_dup d_Mo_secretNow_97 rfl ?_
    refine z_bipush (v := (nI 8)) d_Mo_secretNow_98 (by decide) ?_
    refine z_iload 0 d_Mo_secretNow_100 rfl ?_
    refine z_iastN zu_s (show 8 < 9 by decide) (by decide) d_Mo_secretNow_102 ?_
    refine z_one ?_
    refine z_astore (L' := [(5, _), (4, _), (3, _), (0, _), (1, _), (2, _)]) d_Mo_secretNow_103 (by decide) rfl ?_
    refine z_aload 0 d_Mo_secretNow_105 rfl ?_
    refine z_iload_n 5 d_Mo_secretNow_107 rfl rfl ?_
    refine z_ialdN zu_s (hw) (by decide) d_Mo_secretNow_108 ?_
    exact z_iret rfl (⟨⟨_, rfl⟩, V, hMo _, zKp.rf, zFr.new ha⟩) (by first | decide | omega) (by first | decide | omega) d_Mo_secretNow_109
  · skip
    refine z_iconst (v := (-1)) d_Mo_secretNow_86 (by decide) ?_
    refine z_goto 96 d_Mo_secretNow_87 (by decide) ?_
    refine z_iastN zu_s (show 7 < 9 by decide) (by decide) d_Mo_secretNow_96 ?_
    refine z_one ?_
    refine z_dup d_Mo_secretNow_97 rfl ?_
    refine z_bipush (v := (nI 8)) d_Mo_secretNow_98 (by decide) ?_
    refine z_iload 0 d_Mo_secretNow_100 rfl ?_
    refine z_iastN zu_s (show 8 < 9 by decide) (by decide) d_Mo_secretNow_102 ?_
    refine z_one ?_
    refine z_astore (L' := [(5, _), (4, _), (3, _), (0, _), (1, _), (2, _)]) d_Mo_secretNow_103 (by decide) rfl ?_
    refine z_aload 0 d_Mo_secretNow_105 rfl ?_
    refine z_iload_n 5 d_Mo_secretNow_107 rfl rfl ?_
    refine z_ialdN zu_s (hw) (by decide) d_Mo_secretNow_108 ?_
    exact z_iret rfl (⟨⟨_, rfl⟩, V, hMo _, zKp.rf, zFr.new ha⟩) (by first | decide | omega) (by first | decide | omega) d_Mo_secretNow_109
theorem d_Mo_shareNow_0 : decode c_Mo_shareNow 0 = .ok (.aload_n 0, 1) := by decide +kernel
theorem d_Mo_shareNow_1 : decode c_Mo_shareNow 1 = .ok (.getfield 20, 3) := by decide +kernel
theorem d_Mo_shareNow_4 : decode c_Mo_shareNow 4 = .ok (.iload_n 1, 1) := by decide +kernel
theorem d_Mo_shareNow_5 : decode c_Mo_shareNow 5 = .ok (.invokeinterface 51 2, 5) := by decide +kernel
theorem d_Mo_shareNow_10 : decode c_Mo_shareNow 10 = .ok (.checkcast 47, 3) := by decide +kernel
theorem d_Mo_shareNow_13 : decode c_Mo_shareNow 13 = .ok (.astore 4, 2) := by decide +kernel
theorem d_Mo_shareNow_15 : decode c_Mo_shareNow 15 = .ok (.iload_n 3, 1) := by decide +kernel
theorem d_Mo_shareNow_16 : decode c_Mo_shareNow 16 = .ok (.ifCond .ne 13, 3) := by decide +kernel
theorem d_Mo_shareNow_19 : decode c_Mo_shareNow 19 = .ok (.aload 4, 2) := by decide +kernel
theorem d_Mo_shareNow_21 : decode c_Mo_shareNow 21 = .ok (.getfield 46, 3) := by decide +kernel
theorem d_Mo_shareNow_24 : decode c_Mo_shareNow 24 = .ok (.iload_n 2, 1) := by decide +kernel
theorem d_Mo_shareNow_25 : decode c_Mo_shareNow 25 = .ok (.iaload, 1) := by decide +kernel
theorem d_Mo_shareNow_26 : decode c_Mo_shareNow 26 = .ok (.goto 40, 3) := by decide +kernel
theorem d_Mo_shareNow_29 : decode c_Mo_shareNow 29 = .ok (.iload_n 3, 1) := by decide +kernel
theorem d_Mo_shareNow_30 : decode c_Mo_shareNow 30 = .ok (.iconst 1, 1) := by decide +kernel
theorem d_Mo_shareNow_31 : decode c_Mo_shareNow 31 = .ok (.if_icmp .ne 13, 3) := by decide +kernel
theorem d_Mo_shareNow_34 : decode c_Mo_shareNow 34 = .ok (.aload 4, 2) := by decide +kernel
theorem d_Mo_shareNow_36 : decode c_Mo_shareNow 36 = .ok (.getfield 140, 3) := by decide +kernel
theorem d_Mo_shareNow_39 : decode c_Mo_shareNow 39 = .ok (.iload_n 2, 1) := by decide +kernel
theorem d_Mo_shareNow_40 : decode c_Mo_shareNow 40 = .ok (.iaload, 1) := by decide +kernel
theorem d_Mo_shareNow_41 : decode c_Mo_shareNow 41 = .ok (.goto 25, 3) := by decide +kernel
theorem d_Mo_shareNow_44 : decode c_Mo_shareNow 44 = .ok (.aload 4, 2) := by decide +kernel
theorem d_Mo_shareNow_46 : decode c_Mo_shareNow 46 = .ok (.getfield 46, 3) := by decide +kernel
theorem d_Mo_shareNow_49 : decode c_Mo_shareNow 49 = .ok (.iload_n 2, 1) := by decide +kernel
theorem d_Mo_shareNow_50 : decode c_Mo_shareNow 50 = .ok (.iaload, 1) := by decide +kernel
theorem d_Mo_shareNow_51 : decode c_Mo_shareNow 51 = .ok (.iconst (-1), 1) := by decide +kernel
theorem d_Mo_shareNow_52 : decode c_Mo_shareNow 52 = .ok (.if_icmp .ne 7, 3) := by decide +kernel
theorem d_Mo_shareNow_55 : decode c_Mo_shareNow 55 = .ok (.iconst (-1), 1) := by decide +kernel
theorem d_Mo_shareNow_56 : decode c_Mo_shareNow 56 = .ok (.goto 10, 3) := by decide +kernel
theorem d_Mo_shareNow_59 : decode c_Mo_shareNow 59 = .ok (.aload_n 0, 1) := by decide +kernel
theorem d_Mo_shareNow_60 : decode c_Mo_shareNow 60 = .ok (.aload 4, 2) := by decide +kernel
theorem d_Mo_shareNow_62 : decode c_Mo_shareNow 62 = .ok (.iload_n 2, 1) := by decide +kernel
theorem d_Mo_shareNow_63 : decode c_Mo_shareNow 63 = .ok (.invokevirtual 80, 3) := by decide +kernel
theorem d_Mo_shareNow_66 : decode c_Mo_shareNow 66 = .ok (.ireturn, 1) := by decide +kernel
set_option maxHeartbeats 4000000 in
set_option maxRecDepth 100000 in
theorem m_Mo_shareNow {g0 : State} {d : zD} {l : Launch} {a0 : Array Value} (hs0 : zS0 d a0 g0) (hst : l.stackTraces = false) {G : zG} {B : Nat → Nat} {V : Nat → Nat → Int32} {nk ns ne ec : Nat} (hM : zM d B V nk ns ne ec G) {si : Nat} (hsi : si < ns) {ki : Nat} (hki : ki < nk) (w : Int32) : zMet g0 d l y_Mo_shareNow c_Mo_shareNow 5 ((Option.some Jvm.ClassFile.FieldType.int)) 12 0 0 [.ref (B 0), .int (nI si), .int (nI ki), .int w] (G) (zI1 G) (zNo) := by
  have hnk : nk ≤ 8 := hM.2.1
  have hns : ns ≤ 6 := hM.2.2.1
  have hne : ne ≤ 64 := hM.2.2.2.1
  have hp2 : 2 ^ nk ≤ 256 := Nat.pow_le_pow_right (n := 2) (by decide) hnk
  have hj : ki < 8 := by omega
  refine z_entry hs0 hst (by decide) (Nat.le_of_ble_eq_true rfl) (fun p e s m args below meth c => ?_)
  refine z_aload_n 0 d_Mo_shareNow_0 rfl rfl ?_
  refine z_get zc_Mo 7 (by decide) qF_Mo_20 hM.mo rfl d_Mo_shareNow_1 ?_
  refine z_iload_n 1 d_Mo_shareNow_4 rfl rfl ?_
  refine z_callF0 (m_AL_get hs0 hst (hM.sA hsi) hsi (if_pos hsi)) ym_AL_get zF_AL_get qM_Mo_51 zc_AL (hM.sA hsi).1 d_Mo_shareNow_5 rfl (Nat.le_of_ble_eq_true rfl) ⟨Nat.zero_le _, Nat.zero_le _⟩ ⟨Nat.le_of_ble_eq_true rfl, Nat.le_of_ble_eq_true rfl⟩ ?_
  refine z_castS zc_MS qK_Mo_47 (hM.se hsi).1 d_Mo_shareNow_10 ?_
  refine z_astore (L' := [(4, _), (0, _), (1, _), (2, _), (3, _)]) d_Mo_shareNow_13 (by decide) rfl ?_
  refine z_iload_n 4 d_Mo_shareNow_15 rfl rfl ?_
  refine z_if_ne 29 d_Mo_shareNow_16 (by decide) (fun c_16 => ?_) (fun c_16 => ?_)
  · skip
    refine z_iload_n 4 d_Mo_shareNow_29 rfl rfl ?_
    refine z_iconst (v := 1) d_Mo_shareNow_30 (by decide) ?_
    refine z_icmp_ne 44 d_Mo_shareNow_31 (by decide) (fun c_31 => ?_) (fun c_31 => ?_)
    · skip
      refine z_aload 0 d_Mo_shareNow_44 rfl ?_
      refine z_get zc_MS 6 (by decide) qF_Mo_46 (hM.se hsi).1 rfl d_Mo_shareNow_46 ?_
      refine z_iload_n 3 d_Mo_shareNow_49 rfl rfl ?_
      refine z_ialdN (hM.se hsi).2.1 (hj) (by decide) d_Mo_shareNow_50 ?_
      refine z_iconst (v := (-1)) d_Mo_shareNow_51 (by decide) ?_
      refine z_icmp_ne 59 d_Mo_shareNow_52 (by decide) (fun c_52 => ?_) (fun c_52 => ?_)
      · skip
        refine z_aload_n 1 d_Mo_shareNow_59 rfl rfl ?_
        refine z_aload 0 d_Mo_shareNow_60 rfl ?_
        refine z_iload_n 3 d_Mo_shareNow_62 rfl rfl ?_
        refine z_callV0 (m_Mo_gives hs0 hst hM hsi hki) ym_Mo_gives qM_Mo_80 qI_Mo_gives qV_Mo_Mo_gives zc_Mo hM.mo d_Mo_shareNow_63 rfl (Nat.le_of_ble_eq_true rfl) ⟨Nat.zero_le _, Nat.zero_le _⟩ ⟨Nat.le_of_ble_eq_true rfl, Nat.le_of_ble_eq_true rfl⟩ ?_
        exact z_iret rfl (⟨⟨_, rfl⟩, rfl⟩) (by first | decide | omega) (by first | decide | omega) d_Mo_shareNow_66
      · skip
        refine z_iconst (v := (-1)) d_Mo_shareNow_55 (by decide) ?_
        refine z_goto 66 d_Mo_shareNow_56 (by decide) ?_
        exact z_iret rfl (⟨⟨_, rfl⟩, rfl⟩) (by first | decide | omega) (by first | decide | omega) d_Mo_shareNow_66
    · skip
      refine z_aload 0 d_Mo_shareNow_34 rfl ?_
      refine z_get zc_MS 7 (by decide) qF_Mo_140 (hM.se hsi).1 rfl d_Mo_shareNow_36 ?_
      refine z_iload_n 3 d_Mo_shareNow_39 rfl rfl ?_
      refine z_ialdN (hM.se hsi).2.2.1 (hj) (by decide) d_Mo_shareNow_40 ?_
      refine z_goto 66 d_Mo_shareNow_41 (by decide) ?_
      exact z_iret rfl (⟨⟨_, rfl⟩, rfl⟩) (by first | decide | omega) (by first | decide | omega) d_Mo_shareNow_66
  · skip
    refine z_aload 0 d_Mo_shareNow_19 rfl ?_
    refine z_get zc_MS 6 (by decide) qF_Mo_46 (hM.se hsi).1 rfl d_Mo_shareNow_21 ?_
    refine z_iload_n 3 d_Mo_shareNow_24 rfl rfl ?_
    refine z_ialdN (hM.se hsi).2.1 (hj) (by decide) d_Mo_shareNow_25 ?_
    refine z_goto 66 d_Mo_shareNow_26 (by decide) ?_
    exact z_iret rfl (⟨⟨_, rfl⟩, rfl⟩) (by first | decide | omega) (by first | decide | omega) d_Mo_shareNow_66
theorem d_Mo_bankNow_0 : decode c_Mo_bankNow 0 = .ok (.iconst 0, 1) := by decide +kernel
theorem d_Mo_bankNow_1 : decode c_Mo_bankNow 1 = .ok (.istore_n 2, 1) := by decide +kernel
theorem d_Mo_bankNow_2 : decode c_Mo_bankNow 2 = .ok (.iconst 0, 1) := by decide +kernel
theorem d_Mo_bankNow_3 : decode c_Mo_bankNow 3 = .ok (.istore_n 3, 1) := by decide +kernel
theorem d_Mo_bankNow_4 : decode c_Mo_bankNow 4 = .ok (.iconst 0, 1) := by decide +kernel
theorem d_Mo_bankNow_5 : decode c_Mo_bankNow 5 = .ok (.istore 4, 2) := by decide +kernel
theorem d_Mo_bankNow_7 : decode c_Mo_bankNow 7 = .ok (.iconst 0, 1) := by decide +kernel
theorem d_Mo_bankNow_8 : decode c_Mo_bankNow 8 = .ok (.istore 5, 2) := by decide +kernel
theorem d_Mo_bankNow_10 : decode c_Mo_bankNow 10 = .ok (.iload 5, 2) := by decide +kernel
theorem d_Mo_bankNow_12 : decode c_Mo_bankNow 12 = .ok (.aload_n 0, 1) := by decide +kernel
theorem d_Mo_bankNow_13 : decode c_Mo_bankNow 13 = .ok (.getfield 16, 3) := by decide +kernel
theorem d_Mo_bankNow_16 : decode c_Mo_bankNow 16 = .ok (.invokeinterface 94 1, 5) := by decide +kernel
theorem d_Mo_bankNow_21 : decode c_Mo_bankNow 21 = .ok (.if_icmp .ge 37, 3) := by decide +kernel
theorem d_Mo_bankNow_24 : decode c_Mo_bankNow 24 = .ok (.iload_n 2, 1) := by decide +kernel
theorem d_Mo_bankNow_25 : decode c_Mo_bankNow 25 = .ok (.aload_n 0, 1) := by decide +kernel
theorem d_Mo_bankNow_26 : decode c_Mo_bankNow 26 = .ok (.getfield 16, 3) := by decide +kernel
theorem d_Mo_bankNow_29 : decode c_Mo_bankNow 29 = .ok (.iload 5, 2) := by decide +kernel
theorem d_Mo_bankNow_31 : decode c_Mo_bankNow 31 = .ok (.invokeinterface 51 2, 5) := by decide +kernel
theorem d_Mo_bankNow_36 : decode c_Mo_bankNow 36 = .ok (.checkcast 57, 3) := by decide +kernel
theorem d_Mo_bankNow_39 : decode c_Mo_bankNow 39 = .ok (.getfield 184, 3) := by decide +kernel
theorem d_Mo_bankNow_42 : decode c_Mo_bankNow 42 = .ok (.ifCond .eq 7, 3) := by decide +kernel
theorem d_Mo_bankNow_45 : decode c_Mo_bankNow 45 = .ok (.iconst 1, 1) := by decide +kernel
theorem d_Mo_bankNow_46 : decode c_Mo_bankNow 46 = .ok (.goto 4, 3) := by decide +kernel
theorem d_Mo_bankNow_49 : decode c_Mo_bankNow 49 = .ok (.iconst 0, 1) := by decide +kernel
theorem d_Mo_bankNow_50 : decode c_Mo_bankNow 50 = .ok (.iadd, 1) := by decide +kernel
theorem d_Mo_bankNow_51 : decode c_Mo_bankNow 51 = .ok (.istore_n 2, 1) := by decide +kernel
theorem d_Mo_bankNow_52 : decode c_Mo_bankNow 52 = .ok (.iinc 5 1, 3) := by decide +kernel
theorem d_Mo_bankNow_55 : decode c_Mo_bankNow 55 = .ok (.goto (-45), 3) := by decide +kernel
theorem d_Mo_bankNow_58 : decode c_Mo_bankNow 58 = .ok (.iconst 0, 1) := by decide +kernel
theorem d_Mo_bankNow_59 : decode c_Mo_bankNow 59 = .ok (.istore 5, 2) := by decide +kernel
theorem d_Mo_bankNow_61 : decode c_Mo_bankNow 61 = .ok (.iload 5, 2) := by decide +kernel
theorem d_Mo_bankNow_63 : decode c_Mo_bankNow 63 = .ok (.aload_n 0, 1) := by decide +kernel
theorem d_Mo_bankNow_64 : decode c_Mo_bankNow 64 = .ok (.getfield 20, 3) := by decide +kernel
theorem d_Mo_bankNow_67 : decode c_Mo_bankNow 67 = .ok (.invokeinterface 94 1, 5) := by decide +kernel
theorem d_Mo_bankNow_72 : decode c_Mo_bankNow 72 = .ok (.if_icmp .ge 57, 3) := by decide +kernel
theorem d_Mo_bankNow_75 : decode c_Mo_bankNow 75 = .ok (.iload_n 3, 1) := by decide +kernel
theorem d_Mo_bankNow_76 : decode c_Mo_bankNow 76 = .ok (.aload_n 0, 1) := by decide +kernel
theorem d_Mo_bankNow_77 : decode c_Mo_bankNow 77 = .ok (.getfield 20, 3) := by decide +kernel
theorem d_Mo_bankNow_80 : decode c_Mo_bankNow 80 = .ok (.iload 5, 2) := by decide +kernel
theorem d_Mo_bankNow_82 : decode c_Mo_bankNow 82 = .ok (.invokeinterface 51 2, 5) := by decide +kernel
theorem d_Mo_bankNow_87 : decode c_Mo_bankNow 87 = .ok (.checkcast 47, 3) := by decide +kernel
theorem d_Mo_bankNow_90 : decode c_Mo_bankNow 90 = .ok (.invokevirtual 62, 3) := by decide +kernel
theorem d_Mo_bankNow_93 : decode c_Mo_bankNow 93 = .ok (.invokestatic 66, 3) := by decide +kernel
theorem d_Mo_bankNow_96 : decode c_Mo_bankNow 96 = .ok (.iadd, 1) := by decide +kernel
theorem d_Mo_bankNow_97 : decode c_Mo_bankNow 97 = .ok (.istore_n 3, 1) := by decide +kernel
theorem d_Mo_bankNow_98 : decode c_Mo_bankNow 98 = .ok (.iload 4, 2) := by decide +kernel
theorem d_Mo_bankNow_100 : decode c_Mo_bankNow 100 = .ok (.aload_n 0, 1) := by decide +kernel
theorem d_Mo_bankNow_101 : decode c_Mo_bankNow 101 = .ok (.getfield 20, 3) := by decide +kernel
theorem d_Mo_bankNow_104 : decode c_Mo_bankNow 104 = .ok (.iload 5, 2) := by decide +kernel
theorem d_Mo_bankNow_106 : decode c_Mo_bankNow 106 = .ok (.invokeinterface 51 2, 5) := by decide +kernel
theorem d_Mo_bankNow_111 : decode c_Mo_bankNow 111 = .ok (.checkcast 47, 3) := by decide +kernel
theorem d_Mo_bankNow_114 : decode c_Mo_bankNow 114 = .ok (.invokevirtual 156, 3) := by decide +kernel
theorem d_Mo_bankNow_117 : decode c_Mo_bankNow 117 = .ok (.invokestatic 66, 3) := by decide +kernel
theorem d_Mo_bankNow_120 : decode c_Mo_bankNow 120 = .ok (.iadd, 1) := by decide +kernel
theorem d_Mo_bankNow_121 : decode c_Mo_bankNow 121 = .ok (.istore 4, 2) := by decide +kernel
theorem d_Mo_bankNow_123 : decode c_Mo_bankNow 123 = .ok (.iinc 5 1, 3) := by decide +kernel
theorem d_Mo_bankNow_126 : decode c_Mo_bankNow 126 = .ok (.goto (-65), 3) := by decide +kernel
theorem d_Mo_bankNow_129 : decode c_Mo_bankNow 129 = .ok (.bipush 12, 2) := by decide +kernel
theorem d_Mo_bankNow_131 : decode c_Mo_bankNow 131 = .ok (.newarray .int, 2) := by decide +kernel
theorem d_Mo_bankNow_133 : decode c_Mo_bankNow 133 = .ok (.dup, 1) := by decide +kernel
theorem d_Mo_bankNow_134 : decode c_Mo_bankNow 134 = .ok (.iconst 0, 1) := by decide +kernel
theorem d_Mo_bankNow_135 : decode c_Mo_bankNow 135 = .ok (.aload_n 0, 1) := by decide +kernel
theorem d_Mo_bankNow_136 : decode c_Mo_bankNow 136 = .ok (.getfield 16, 3) := by decide +kernel
theorem d_Mo_bankNow_139 : decode c_Mo_bankNow 139 = .ok (.invokeinterface 94 1, 5) := by decide +kernel
theorem d_Mo_bankNow_144 : decode c_Mo_bankNow 144 = .ok (.iastore, 1) := by decide +kernel
theorem d_Mo_bankNow_145 : decode c_Mo_bankNow 145 = .ok (.dup, 1) := by decide +kernel
theorem d_Mo_bankNow_146 : decode c_Mo_bankNow 146 = .ok (.iconst 1, 1) := by decide +kernel
theorem d_Mo_bankNow_147 : decode c_Mo_bankNow 147 = .ok (.aload_n 0, 1) := by decide +kernel
theorem d_Mo_bankNow_148 : decode c_Mo_bankNow 148 = .ok (.getfield 20, 3) := by decide +kernel
theorem d_Mo_bankNow_151 : decode c_Mo_bankNow 151 = .ok (.invokeinterface 94 1, 5) := by decide +kernel
theorem d_Mo_bankNow_156 : decode c_Mo_bankNow 156 = .ok (.iastore, 1) := by decide +kernel
theorem d_Mo_bankNow_157 : decode c_Mo_bankNow 157 = .ok (.dup, 1) := by decide +kernel
theorem d_Mo_bankNow_158 : decode c_Mo_bankNow 158 = .ok (.iconst 2, 1) := by decide +kernel
theorem d_Mo_bankNow_159 : decode c_Mo_bankNow 159 = .ok (.aload_n 0, 1) := by decide +kernel
theorem d_Mo_bankNow_160 : decode c_Mo_bankNow 160 = .ok (.getfield 102, 3) := by decide +kernel
theorem d_Mo_bankNow_163 : decode c_Mo_bankNow 163 = .ok (.iastore, 1) := by decide +kernel
theorem d_Mo_bankNow_164 : decode c_Mo_bankNow 164 = .ok (.dup, 1) := by decide +kernel
theorem d_Mo_bankNow_165 : decode c_Mo_bankNow 165 = .ok (.iconst 3, 1) := by decide +kernel
theorem d_Mo_bankNow_166 : decode c_Mo_bankNow 166 = .ok (.aload_n 0, 1) := by decide +kernel
theorem d_Mo_bankNow_167 : decode c_Mo_bankNow 167 = .ok (.getfield 7, 3) := by decide +kernel
theorem d_Mo_bankNow_170 : decode c_Mo_bankNow 170 = .ok (.iastore, 1) := by decide +kernel
theorem d_Mo_bankNow_171 : decode c_Mo_bankNow 171 = .ok (.dup, 1) := by decide +kernel
theorem d_Mo_bankNow_172 : decode c_Mo_bankNow 172 = .ok (.iconst 4, 1) := by decide +kernel
theorem d_Mo_bankNow_173 : decode c_Mo_bankNow 173 = .ok (.aload_n 0, 1) := by decide +kernel
theorem d_Mo_bankNow_174 : decode c_Mo_bankNow 174 = .ok (.getfield 23, 3) := by decide +kernel
theorem d_Mo_bankNow_177 : decode c_Mo_bankNow 177 = .ok (.invokeinterface 94 1, 5) := by decide +kernel
theorem d_Mo_bankNow_182 : decode c_Mo_bankNow 182 = .ok (.iastore, 1) := by decide +kernel
theorem d_Mo_bankNow_183 : decode c_Mo_bankNow 183 = .ok (.dup, 1) := by decide +kernel
theorem d_Mo_bankNow_184 : decode c_Mo_bankNow 184 = .ok (.iconst 5, 1) := by decide +kernel
theorem d_Mo_bankNow_185 : decode c_Mo_bankNow 185 = .ok (.iload_n 1, 1) := by decide +kernel
theorem d_Mo_bankNow_186 : decode c_Mo_bankNow 186 = .ok (.iconst 5, 1) := by decide +kernel
theorem d_Mo_bankNow_187 : decode c_Mo_bankNow 187 = .ok (.if_icmp .ne 10, 3) := by decide +kernel
theorem d_Mo_bankNow_190 : decode c_Mo_bankNow 190 = .ok (.aload_n 0, 1) := by decide +kernel
theorem d_Mo_bankNow_191 : decode c_Mo_bankNow 191 = .ok (.invokevirtual 222, 3) := by decide +kernel
theorem d_Mo_bankNow_194 : decode c_Mo_bankNow 194 = .ok (.goto 4, 3) := by decide +kernel
theorem d_Mo_bankNow_197 : decode c_Mo_bankNow 197 = .ok (.iconst 0, 1) := by decide +kernel
theorem d_Mo_bankNow_198 : decode c_Mo_bankNow 198 = .ok (.iastore, 1) := by decide +kernel
theorem d_Mo_bankNow_199 : decode c_Mo_bankNow 199 = .ok (.dup, 1) := by decide +kernel
theorem d_Mo_bankNow_200 : decode c_Mo_bankNow 200 = .ok (.bipush 6, 2) := by decide +kernel
theorem d_Mo_bankNow_202 : decode c_Mo_bankNow 202 = .ok (.aload_n 0, 1) := by decide +kernel
theorem d_Mo_bankNow_203 : decode c_Mo_bankNow 203 = .ok (.getfield 175, 3) := by decide +kernel
theorem d_Mo_bankNow_206 : decode c_Mo_bankNow 206 = .ok (.iastore, 1) := by decide +kernel
theorem d_Mo_bankNow_207 : decode c_Mo_bankNow 207 = .ok (.dup, 1) := by decide +kernel
theorem d_Mo_bankNow_208 : decode c_Mo_bankNow 208 = .ok (.bipush 7, 2) := by decide +kernel
theorem d_Mo_bankNow_210 : decode c_Mo_bankNow 210 = .ok (.aload_n 0, 1) := by decide +kernel
theorem d_Mo_bankNow_211 : decode c_Mo_bankNow 211 = .ok (.getfield 178, 3) := by decide +kernel
theorem d_Mo_bankNow_214 : decode c_Mo_bankNow 214 = .ok (.iastore, 1) := by decide +kernel
theorem d_Mo_bankNow_215 : decode c_Mo_bankNow 215 = .ok (.dup, 1) := by decide +kernel
theorem d_Mo_bankNow_216 : decode c_Mo_bankNow 216 = .ok (.bipush 8, 2) := by decide +kernel
theorem d_Mo_bankNow_218 : decode c_Mo_bankNow 218 = .ok (.aload_n 0, 1) := by decide +kernel
theorem d_Mo_bankNow_219 : decode c_Mo_bankNow 219 = .ok (.getfield 169, 3) := by decide +kernel
theorem d_Mo_bankNow_222 : decode c_Mo_bankNow 222 = .ok (.iastore, 1) := by decide +kernel
theorem d_Mo_bankNow_223 : decode c_Mo_bankNow 223 = .ok (.dup, 1) := by decide +kernel
theorem d_Mo_bankNow_224 : decode c_Mo_bankNow 224 = .ok (.bipush 9, 2) := by decide +kernel
theorem d_Mo_bankNow_226 : decode c_Mo_bankNow 226 = .ok (.iload_n 2, 1) := by decide +kernel
theorem d_Mo_bankNow_227 : decode c_Mo_bankNow 227 = .ok (.iastore, 1) := by decide +kernel
theorem d_Mo_bankNow_228 : decode c_Mo_bankNow 228 = .ok (.dup, 1) := by decide +kernel
theorem d_Mo_bankNow_229 : decode c_Mo_bankNow 229 = .ok (.bipush 10, 2) := by decide +kernel
theorem d_Mo_bankNow_231 : decode c_Mo_bankNow 231 = .ok (.iload_n 3, 1) := by decide +kernel
theorem d_Mo_bankNow_232 : decode c_Mo_bankNow 232 = .ok (.iastore, 1) := by decide +kernel
theorem d_Mo_bankNow_233 : decode c_Mo_bankNow 233 = .ok (.dup, 1) := by decide +kernel
theorem d_Mo_bankNow_234 : decode c_Mo_bankNow 234 = .ok (.bipush 11, 2) := by decide +kernel
theorem d_Mo_bankNow_236 : decode c_Mo_bankNow 236 = .ok (.iload 4, 2) := by decide +kernel
theorem d_Mo_bankNow_238 : decode c_Mo_bankNow 238 = .ok (.iastore, 1) := by decide +kernel
theorem d_Mo_bankNow_239 : decode c_Mo_bankNow 239 = .ok (.astore 5, 2) := by decide +kernel
theorem d_Mo_bankNow_241 : decode c_Mo_bankNow 241 = .ok (.aload 5, 2) := by decide +kernel
theorem d_Mo_bankNow_243 : decode c_Mo_bankNow 243 = .ok (.iload_n 1, 1) := by decide +kernel
theorem d_Mo_bankNow_244 : decode c_Mo_bankNow 244 = .ok (.iaload, 1) := by decide +kernel
theorem d_Mo_bankNow_245 : decode c_Mo_bankNow 245 = .ok (.ireturn, 1) := by decide +kernel
set_option maxHeartbeats 4000000 in
set_option maxRecDepth 100000 in
theorem m_Mo_bankNow {g0 : State} {d : zD} {l : Launch} {a0 : Array Value} (hs0 : zS0 d a0 g0) (hst : l.stackTraces = false) {G : zG} {B : Nat → Nat} {V : Nat → Nat → Int32} {nk ns ne ec : Nat} (hM : zM d B V nk ns ne ec G) {w : Nat} (hw : w < 12) : zMet g0 d l y_Mo_bankNow c_Mo_bankNow 6 ((Option.some Jvm.ClassFile.FieldType.int)) 21 1 12 [.ref (B 0), .int (nI w)] (G) (mTs d B nk ns ne ec V G zrI) (zNo) := by
  have hnk : nk ≤ 8 := hM.2.1
  have hns : ns ≤ 6 := hM.2.2.1
  have hne : ne ≤ 64 := hM.2.2.2.1
  have hp2 : 2 ^ nk ≤ 256 := Nat.pow_le_pow_right (n := 2) (by decide) hnk
  refine z_entry hs0 hst (by decide) (Nat.le_of_ble_eq_true rfl) (fun p e s m args below meth c => ?_)
  refine z_iconst (v := 0) d_Mo_bankNow_0 (by decide) ?_
  refine z_istore_n (L' := [(2, _), (0, _), (1, _)]) d_Mo_bankNow_1 rfl (by decide) rfl ?_
  refine z_iconst (v := 0) d_Mo_bankNow_2 (by decide) ?_
  refine z_istore_n (L' := [(3, _), (2, _), (0, _), (1, _)]) d_Mo_bankNow_3 rfl (by decide) rfl ?_
  refine z_iconst (v := 0) d_Mo_bankNow_4 (by decide) ?_
  refine z_istore (L' := [(4, _), (3, _), (2, _), (0, _), (1, _)]) d_Mo_bankNow_5 (by decide) rfl ?_
  refine z_iconst (v := (nI 0)) d_Mo_bankNow_7 (by decide) ?_
  refine z_istore (L' := [(5, _), (4, _), (3, _), (2, _), (0, _), (1, _)]) d_Mo_bankNow_8 (by decide) rfl ?_
  have key_10 : ∀ (n : Nat) (i : Nat) (v : Int32), nk - i < n → (i ≤ nk) → Z g0 d y_Mo_bankNow c_Mo_bankNow 6 ((Option.some Jvm.ClassFile.FieldType.int)) [] p l e (zR 21 1 12) s m args below meth c (vx_MQ below (zQc g0 d (mTs d B nk ns ne ec V G zrI)) (zXc g0 d (zNo)) args s 1 12 (zA g0)) 0 0 (G) [(5, .int (nI i)), (4, .int 0), (3, .int 0), (2, .int v), (0, .ref (B 0)), (1, .int (nI w))] [] 10 := by
    intro n
    induction n with
    | zero => intro i v h0; exact absurd h0 (Nat.not_lt_zero _)
    | succ n ih_10 =>
      intro i v hm_10 hi
      refine z_iload 0 d_Mo_bankNow_10 rfl ?_
      refine z_aload_n 4 d_Mo_bankNow_12 rfl rfl ?_
      refine z_get zc_Mo 6 (by decide) qF_Mo_16 hM.mo rfl d_Mo_bankNow_13 ?_
      refine z_callF0 (m_AL_size hs0 hst hM.kl) ym_AL_size zF_AL_size qM_Mo_94 zc_AL hM.kl d_Mo_bankNow_16 rfl (Nat.le_of_ble_eq_true rfl) ⟨by decide, by decide⟩ ⟨Nat.le_of_ble_eq_true rfl, Nat.le_of_ble_eq_true rfl⟩ ?_
      refine z_icmp_ge 58 d_Mo_bankNow_21 (by decide) (fun c_21 => ?_) (fun c_21 => ?_)
      · skip
        refine z_iconst (v := (nI 0)) d_Mo_bankNow_58 (by decide) ?_
        refine z_istore (L' := [(5, _), (4, _), (3, _), (2, _), (0, _), (1, _)]) d_Mo_bankNow_59 (by decide) rfl ?_
        have key_61 : ∀ (n : Nat) (i : Nat) (u1 u2 u3 : Int32), ns - i < n → (i ≤ ns) → Z g0 d y_Mo_bankNow c_Mo_bankNow 6 ((Option.some Jvm.ClassFile.FieldType.int)) [] p l e (zR 21 1 12) s m args below meth c (vx_MQ below (zQc g0 d (mTs d B nk ns ne ec V G zrI)) (zXc g0 d (zNo)) args s 1 12 (zA g0)) 0 0 (G) [(5, .int (nI i)), (4, .int u3), (3, .int u2), (2, .int u1), (0, .ref (B 0)), (1, .int (nI w))] [] 61 := by
          intro n
          induction n with
          | zero => intro i u1 u2 u3 h0; exact absurd h0 (Nat.not_lt_zero _)
          | succ n ih_61 =>
            intro i u1 u2 u3 hm_61 hi
            refine z_iload 0 d_Mo_bankNow_61 rfl ?_
            refine z_aload_n 4 d_Mo_bankNow_63 rfl rfl ?_
            refine z_get zc_Mo 7 (by decide) qF_Mo_20 hM.mo rfl d_Mo_bankNow_64 ?_
            refine z_callF0 (m_AL_size hs0 hst hM.sl) ym_AL_size zF_AL_size qM_Mo_94 zc_AL hM.sl d_Mo_bankNow_67 rfl (Nat.le_of_ble_eq_true rfl) ⟨by decide, by decide⟩ ⟨Nat.le_of_ble_eq_true rfl, Nat.le_of_ble_eq_true rfl⟩ ?_
            refine z_icmp_ge 129 d_Mo_bankNow_72 (by decide) (fun c_72 => ?_) (fun c_72 => ?_)
            · skip
              refine z_bipush (v := 12) d_Mo_bankNow_129 (by decide) ?_
              refine z_newaI 12 qA_int (by decide) rfl (by decide) ⟨by decide, by decide⟩ d_Mo_bankNow_131 (fun a ha hab => ?_)
              have hMo : ∀ w, zM d B V nk ns ne ec (zu G a w) := fun w => hM.out (hM.nn_ ha)
              refine z_dup d_Mo_bankNow_133 rfl ?_
              refine z_iconst (v := (nI 0)) d_Mo_bankNow_134 (by decide) ?_
              refine z_aload_n 4 d_Mo_bankNow_135 rfl rfl ?_
              refine z_get zc_Mo 6 (by decide) qF_Mo_16 (hMo _).mo rfl d_Mo_bankNow_136 ?_
              refine z_callF0 (m_AL_size hs0 hst (hMo _).kl) ym_AL_size zF_AL_size qM_Mo_94 zc_AL (hMo _).kl d_Mo_bankNow_139 rfl (Nat.le_of_ble_eq_true rfl) ⟨by decide, by decide⟩ ⟨Nat.le_of_ble_eq_true rfl, Nat.le_of_ble_eq_true rfl⟩ ?_
              refine z_iastN zu_s (show 0 < 12 by decide) (by decide) d_Mo_bankNow_144 ?_
              refine z_one ?_
              refine z_dup d_Mo_bankNow_145 rfl ?_
              refine z_iconst (v := (nI 1)) d_Mo_bankNow_146 (by decide) ?_
              refine z_aload_n 4 d_Mo_bankNow_147 rfl rfl ?_
              refine z_get zc_Mo 7 (by decide) qF_Mo_20 (hMo _).mo rfl d_Mo_bankNow_148 ?_
              refine z_callF0 (m_AL_size hs0 hst (hMo _).sl) ym_AL_size zF_AL_size qM_Mo_94 zc_AL (hMo _).sl d_Mo_bankNow_151 rfl (Nat.le_of_ble_eq_true rfl) ⟨by decide, by decide⟩ ⟨Nat.le_of_ble_eq_true rfl, Nat.le_of_ble_eq_true rfl⟩ ?_
              refine z_iastN zu_s (show 1 < 12 by decide) (by decide) d_Mo_bankNow_156 ?_
              refine z_one ?_
              refine z_dup d_Mo_bankNow_157 rfl ?_
              refine z_iconst (v := (nI 2)) d_Mo_bankNow_158 (by decide) ?_
              refine z_aload_n 4 d_Mo_bankNow_159 rfl rfl ?_
              refine z_get zc_Mo 2 (by decide) qF_Mo_102 (hMo _).mo rfl d_Mo_bankNow_160 ?_
              refine z_iastN zu_s (show 2 < 12 by decide) (by decide) d_Mo_bankNow_163 ?_
              refine z_one ?_
              refine z_dup d_Mo_bankNow_164 rfl ?_
              refine z_iconst (v := (nI 3)) d_Mo_bankNow_165 (by decide) ?_
              refine z_aload_n 4 d_Mo_bankNow_166 rfl rfl ?_
              refine z_get zc_Mo 1 (by decide) qF_Mo_7 (hMo _).mo rfl d_Mo_bankNow_167 ?_
              refine z_iastN zu_s (show 3 < 12 by decide) (by decide) d_Mo_bankNow_170 ?_
              refine z_one ?_
              refine z_dup d_Mo_bankNow_171 rfl ?_
              refine z_iconst (v := (nI 4)) d_Mo_bankNow_172 (by decide) ?_
              refine z_aload_n 4 d_Mo_bankNow_173 rfl rfl ?_
              refine z_get zc_Mo 8 (by decide) qF_Mo_23 (hMo _).mo rfl d_Mo_bankNow_174 ?_
              refine z_callF0 (m_AL_size hs0 hst (hMo _).el) ym_AL_size zF_AL_size qM_Mo_94 zc_AL (hMo _).el d_Mo_bankNow_177 rfl (Nat.le_of_ble_eq_true rfl) ⟨by decide, by decide⟩ ⟨Nat.le_of_ble_eq_true rfl, Nat.le_of_ble_eq_true rfl⟩ ?_
              refine z_iastN zu_s (show 4 < 12 by decide) (by decide) d_Mo_bankNow_182 ?_
              refine z_one ?_
              refine z_dup d_Mo_bankNow_183 rfl ?_
              refine z_iconst (v := (nI 5)) d_Mo_bankNow_184 (by decide) ?_
              refine z_iload_n 5 d_Mo_bankNow_185 rfl rfl ?_
              refine z_iconst (v := 5) d_Mo_bankNow_186 (by decide) ?_
              refine z_icmp_ne 197 d_Mo_bankNow_187 (by decide) (fun c_187 => ?_) (fun c_187 => ?_)
              · skip
                refine z_iconst (v := 0) d_Mo_bankNow_197 (by decide) ?_
                refine z_iastN zu_s (show 5 < 12 by decide) (by decide) d_Mo_bankNow_198 ?_
                refine z_one ?_
                refine z_dup d_Mo_bankNow_199 rfl ?_
                refine z_bipush (v := (nI 6)) d_Mo_bankNow_200 (by decide) ?_
                refine z_aload_n 4 d_Mo_bankNow_202 rfl rfl ?_
                refine z_get zc_Mo 3 (by decide) qF_Mo_175 (hMo _).mo rfl d_Mo_bankNow_203 ?_
                refine z_iastN zu_s (show 6 < 12 by decide) (by decide) d_Mo_bankNow_206 ?_
                refine z_one ?_
                refine z_dup d_Mo_bankNow_207 rfl ?_
                refine z_bipush (v := (nI 7)) d_Mo_bankNow_208 (by decide) ?_
                refine z_aload_n 4 d_Mo_bankNow_210 rfl rfl ?_
                refine z_get zc_Mo 4 (by decide) qF_Mo_178 (hMo _).mo rfl d_Mo_bankNow_211 ?_
                refine z_iastN zu_s (show 7 < 12 by decide) (by decide) d_Mo_bankNow_214 ?_
                refine z_one ?_
                refine z_dup d_Mo_bankNow_215 rfl ?_
                refine z_bipush (v := (nI 8)) d_Mo_bankNow_216 (by decide) ?_
                refine z_aload_n 4 d_Mo_bankNow_218 rfl rfl ?_
                refine z_get zc_Mo 5 (by decide) qF_Mo_169 (hMo _).mo rfl d_Mo_bankNow_219 ?_
                refine z_iastN zu_s (show 8 < 12 by decide) (by decide) d_Mo_bankNow_222 ?_
                refine z_one ?_
                refine z_dup d_Mo_bankNow_223 rfl ?_
                refine z_bipush (v := (nI 9)) d_Mo_bankNow_224 (by decide) ?_
                refine z_iload_n 3 d_Mo_bankNow_226 rfl rfl ?_
                refine z_iastN zu_s (show 9 < 12 by decide) (by decide) d_Mo_bankNow_227 ?_
                refine z_one ?_
                refine z_dup d_Mo_bankNow_228 rfl ?_
                refine z_bipush (v := (nI 10)) d_Mo_bankNow_229 (by decide) ?_
                refine z_iload_n 2 d_Mo_bankNow_231 rfl rfl ?_
                refine z_iastN zu_s (show 10 < 12 by decide) (by decide) d_Mo_bankNow_232 ?_
                refine z_one ?_
                refine z_dup d_Mo_bankNow_233 rfl ?_
                refine z_bipush (v := (nI 11)) d_Mo_bankNow_234 (by decide) ?_
                refine z_iload 1 d_Mo_bankNow_236 rfl ?_
                refine z_iastN zu_s (show 11 < 12 by decide) (by decide) d_Mo_bankNow_238 ?_
                refine z_one ?_
                refine z_astore (L' := [(5, _), (4, _), (3, _), (2, _), (0, _), (1, _)]) d_Mo_bankNow_239 (by decide) rfl ?_
                refine z_aload 0 d_Mo_bankNow_241 rfl ?_
                refine z_iload_n 5 d_Mo_bankNow_243 rfl rfl ?_
                refine z_ialdN zu_s (hw) (by decide) d_Mo_bankNow_244 ?_
                exact z_iret rfl (⟨⟨_, rfl⟩, V, hMo _, zKp.rf, zFr.new ha⟩) (by first | decide | omega) (by first | decide | omega) d_Mo_bankNow_245
              · skip
                refine z_aload_n 4 d_Mo_bankNow_190 rfl rfl ?_
                refine z_callVp1 (m_Mo_root hs0 hst (hMo _)) ym_Mo_root qM_Mo_222 qI_Mo_root qV_Mo_Mo_root zc_Mo (hMo _).mo d_Mo_bankNow_191 rfl (Nat.le_of_ble_eq_true rfl) ⟨by decide, by decide⟩ ⟨Nat.le_of_ble_eq_true rfl, Nat.le_of_ble_eq_true rfl⟩ (fun r_191 G_191 hp_191 => ?_)
                obtain ⟨⟨v_191, rfl⟩, rfl⟩ := hp_191
                refine z_goto 198 d_Mo_bankNow_194 (by decide) ?_
                refine z_iastN zu_s (show 5 < 12 by decide) (by decide) d_Mo_bankNow_198 ?_
                refine z_one ?_
                refine z_dup d_Mo_bankNow_199 rfl ?_
                refine z_bipush (v := (nI 6)) d_Mo_bankNow_200 (by decide) ?_
                refine z_aload_n 4 d_Mo_bankNow_202 rfl rfl ?_
                refine z_get zc_Mo 3 (by decide) qF_Mo_175 (hMo _).mo rfl d_Mo_bankNow_203 ?_
                refine z_iastN zu_s (show 6 < 12 by decide) (by decide) d_Mo_bankNow_206 ?_
                refine z_one ?_
                refine z_dup d_Mo_bankNow_207 rfl ?_
                refine z_bipush (v := (nI 7)) d_Mo_bankNow_208 (by decide) ?_
                refine z_aload_n 4 d_Mo_bankNow_210 rfl rfl ?_
                refine z_get zc_Mo 4 (by decide) qF_Mo_178 (hMo _).mo rfl d_Mo_bankNow_211 ?_
                refine z_iastN zu_s (show 7 < 12 by decide) (by decide) d_Mo_bankNow_214 ?_
                refine z_one ?_
                refine z_dup d_Mo_bankNow_215 rfl ?_
                refine z_bipush (v := (nI 8)) d_Mo_bankNow_216 (by decide) ?_
                refine z_aload_n 4 d_Mo_bankNow_218 rfl rfl ?_
                refine z_get zc_Mo 5 (by decide) qF_Mo_169 (hMo _).mo rfl d_Mo_bankNow_219 ?_
                refine z_iastN zu_s (show 8 < 12 by decide) (by decide) d_Mo_bankNow_222 ?_
                refine z_one ?_
                refine z_dup d_Mo_bankNow_223 rfl ?_
                refine z_bipush (v := (nI 9)) d_Mo_bankNow_224 (by decide) ?_
                refine z_iload_n 3 d_Mo_bankNow_226 rfl rfl ?_
                refine z_iastN zu_s (show 9 < 12 by decide) (by decide) d_Mo_bankNow_227 ?_
                refine z_one ?_
                refine z_dup d_Mo_bankNow_228 rfl ?_
                refine z_bipush (v := (nI 10)) d_Mo_bankNow_229 (by decide) ?_
                refine z_iload_n 2 d_Mo_bankNow_231 rfl rfl ?_
                refine z_iastN zu_s (show 10 < 12 by decide) (by decide) d_Mo_bankNow_232 ?_
                refine z_one ?_
                refine z_dup d_Mo_bankNow_233 rfl ?_
                refine z_bipush (v := (nI 11)) d_Mo_bankNow_234 (by decide) ?_
                refine z_iload 1 d_Mo_bankNow_236 rfl ?_
                refine z_iastN zu_s (show 11 < 12 by decide) (by decide) d_Mo_bankNow_238 ?_
                refine z_one ?_
                refine z_astore (L' := [(5, _), (4, _), (3, _), (2, _), (0, _), (1, _)]) d_Mo_bankNow_239 (by decide) rfl ?_
                refine z_aload 0 d_Mo_bankNow_241 rfl ?_
                refine z_iload_n 5 d_Mo_bankNow_243 rfl rfl ?_
                refine z_ialdN zu_s (hw) (by decide) d_Mo_bankNow_244 ?_
                exact z_iret rfl (⟨⟨_, rfl⟩, V, hMo _, zKp.rf, zFr.new ha⟩) (by first | decide | omega) (by first | decide | omega) d_Mo_bankNow_245
            · skip
              have hi6 : i < ns := Nat.lt_of_not_le fun q => c_72 (nI_le q (by omega))
              refine z_iload_n 2 d_Mo_bankNow_75 rfl rfl ?_
              refine z_aload_n 4 d_Mo_bankNow_76 rfl rfl ?_
              refine z_get zc_Mo 7 (by decide) qF_Mo_20 hM.mo rfl d_Mo_bankNow_77 ?_
              refine z_iload 0 d_Mo_bankNow_80 rfl ?_
              refine z_callF0 (m_AL_get hs0 hst (hM.sA hi6) hi6 (if_pos hi6)) ym_AL_get zF_AL_get qM_Mo_51 zc_AL (hM.sA hi6).1 d_Mo_bankNow_82 rfl (Nat.le_of_ble_eq_true rfl) ⟨by decide, by decide⟩ ⟨Nat.le_of_ble_eq_true rfl, Nat.le_of_ble_eq_true rfl⟩ ?_
              refine z_castS zc_MS qK_Mo_47 (hM.se hi6).1 d_Mo_bankNow_87 ?_
              refine z_callV0 (m_MS_good hs0 hst (hM.se hi6)) ym_MS_good qM_Mo_62 qI_MS_good qV_MS_MS_good zc_MS (hM.se hi6).1 d_Mo_bankNow_90 rfl (Nat.le_of_ble_eq_true rfl) ⟨by decide, by decide⟩ ⟨Nat.le_of_ble_eq_true rfl, Nat.le_of_ble_eq_true rfl⟩ ?_
              refine z_callSp0 ((m_Mo_sizeA hs0 hst _)) ym_Mo_size qM_Mo_66 qS_Mo_size d_Mo_bankNow_93 rfl (Nat.le_of_ble_eq_true rfl) ⟨by decide, by decide⟩ ⟨Nat.le_of_ble_eq_true rfl, Nat.le_of_ble_eq_true rfl⟩ (fun r_93 G_93 hp_93 => ?_)
              obtain ⟨⟨v_93, rfl⟩, rfl⟩ := hp_93
              refine z_iadd d_Mo_bankNow_96 ?_
              refine z_istore_n (L' := [(3, _), (5, _), (4, _), (2, _), (0, _), (1, _)]) d_Mo_bankNow_97 rfl (by decide) rfl ?_
              refine z_iload 2 d_Mo_bankNow_98 rfl ?_
              refine z_aload_n 4 d_Mo_bankNow_100 rfl rfl ?_
              refine z_get zc_Mo 7 (by decide) qF_Mo_20 hM.mo rfl d_Mo_bankNow_101 ?_
              refine z_iload 1 d_Mo_bankNow_104 rfl ?_
              refine z_callF0 (m_AL_get hs0 hst (hM.sA hi6) hi6 (if_pos hi6)) ym_AL_get zF_AL_get qM_Mo_51 zc_AL (hM.sA hi6).1 d_Mo_bankNow_106 rfl (Nat.le_of_ble_eq_true rfl) ⟨by decide, by decide⟩ ⟨Nat.le_of_ble_eq_true rfl, Nat.le_of_ble_eq_true rfl⟩ ?_
              refine z_castS zc_MS qK_Mo_47 (hM.se hi6).1 d_Mo_bankNow_111 ?_
              refine z_callV0 (m_MS_stale hs0 hst (hM.se hi6)) ym_MS_stale qM_Mo_156 qI_MS_stale qV_MS_MS_stale zc_MS (hM.se hi6).1 d_Mo_bankNow_114 rfl (Nat.le_of_ble_eq_true rfl) ⟨by decide, by decide⟩ ⟨Nat.le_of_ble_eq_true rfl, Nat.le_of_ble_eq_true rfl⟩ ?_
              refine z_callSp0 ((m_Mo_sizeA hs0 hst _)) ym_Mo_size qM_Mo_66 qS_Mo_size d_Mo_bankNow_117 rfl (Nat.le_of_ble_eq_true rfl) ⟨by decide, by decide⟩ ⟨Nat.le_of_ble_eq_true rfl, Nat.le_of_ble_eq_true rfl⟩ (fun r_117 G_117 hp_117 => ?_)
              obtain ⟨⟨v_117, rfl⟩, rfl⟩ := hp_117
              refine z_iadd d_Mo_bankNow_120 ?_
              refine z_istore (L' := [(4, _), (3, _), (5, _), (2, _), (0, _), (1, _)]) d_Mo_bankNow_121 (by decide) rfl ?_
              refine z_iinc (v := nI (i + 1)) (L' := [(5, _), (4, _), (3, _), (2, _), (0, _), (1, _)]) 2 d_Mo_bankNow_123 rfl (nI_1 i) (by decide) rfl ?_
              refine z_goto 61 d_Mo_bankNow_126 (by decide) ?_
              exact ih_61 (i + 1) _ _ _ (by omega) (by omega)
        exact key_61 (ns + 1) 0 _ _ _ (by omega) (by omega)
      · skip
        have hi6 : i < nk := Nat.lt_of_not_le fun q => c_21 (nI_le q (by omega))
        refine z_iload_n 3 d_Mo_bankNow_24 rfl rfl ?_
        refine z_aload_n 4 d_Mo_bankNow_25 rfl rfl ?_
        refine z_get zc_Mo 6 (by decide) qF_Mo_16 hM.mo rfl d_Mo_bankNow_26 ?_
        refine z_iload 0 d_Mo_bankNow_29 rfl ?_
        refine z_callF0 (m_AL_get hs0 hst (hM.kA hi6) hi6 (if_pos hi6)) ym_AL_get zF_AL_get qM_Mo_51 zc_AL (hM.kA hi6).1 d_Mo_bankNow_31 rfl (Nat.le_of_ble_eq_true rfl) ⟨by decide, by decide⟩ ⟨Nat.le_of_ble_eq_true rfl, Nat.le_of_ble_eq_true rfl⟩ ?_
        refine z_castS zc_MK qK_Mo_57 (hM.ke hi6) d_Mo_bankNow_36 ?_
        refine z_get zc_MK 4 (by decide) qF_Mo_184 (hM.ke hi6) rfl d_Mo_bankNow_39 ?_
        refine z_if_eq 49 d_Mo_bankNow_42 (by decide) (fun c_42 => ?_) (fun c_42 => ?_)
        · skip
          refine z_iconst (v := 0) d_Mo_bankNow_49 (by decide) ?_
          refine z_iadd d_Mo_bankNow_50 ?_
          refine z_istore_n (L' := [(2, _), (5, _), (4, _), (3, _), (0, _), (1, _)]) d_Mo_bankNow_51 rfl (by decide) rfl ?_
          refine z_iinc (v := nI (i + 1)) (L' := [(5, _), (2, _), (4, _), (3, _), (0, _), (1, _)]) 1 d_Mo_bankNow_52 rfl (nI_1 i) (by decide) rfl ?_
          refine z_goto 10 d_Mo_bankNow_55 (by decide) ?_
          refine z_sub (L' := [(5, _), (4, _), (3, _), (2, _), (0, _), (1, _)]) [0, 2, 3, 1, 4, 5] rfl ?_
          exact ih_10 (i + 1) _ (by omega) (by omega)
        · skip
          refine z_iconst (v := 1) d_Mo_bankNow_45 (by decide) ?_
          refine z_goto 50 d_Mo_bankNow_46 (by decide) ?_
          refine z_iadd d_Mo_bankNow_50 ?_
          refine z_istore_n (L' := [(2, _), (5, _), (4, _), (3, _), (0, _), (1, _)]) d_Mo_bankNow_51 rfl (by decide) rfl ?_
          refine z_iinc (v := nI (i + 1)) (L' := [(5, _), (2, _), (4, _), (3, _), (0, _), (1, _)]) 1 d_Mo_bankNow_52 rfl (nI_1 i) (by decide) rfl ?_
          refine z_goto 10 d_Mo_bankNow_55 (by decide) ?_
          refine z_sub (L' := [(5, _), (4, _), (3, _), (2, _), (0, _), (1, _)]) [0, 2, 3, 1, 4, 5] rfl ?_
          exact ih_10 (i + 1) _ (by omega) (by omega)
  exact key_10 (nk + 1) 0 _ (by omega) (by omega)
theorem d_Mo_wouldNow_0 : decode c_Mo_wouldNow 0 = .ok (.aload_n 0, 1) := by decide +kernel
theorem d_Mo_wouldNow_1 : decode c_Mo_wouldNow 1 = .ok (.getfield 20, 3) := by decide +kernel
theorem d_Mo_wouldNow_4 : decode c_Mo_wouldNow 4 = .ok (.iload_n 1, 1) := by decide +kernel
theorem d_Mo_wouldNow_5 : decode c_Mo_wouldNow 5 = .ok (.invokeinterface 51 2, 5) := by decide +kernel
theorem d_Mo_wouldNow_10 : decode c_Mo_wouldNow 10 = .ok (.checkcast 47, 3) := by decide +kernel
theorem d_Mo_wouldNow_13 : decode c_Mo_wouldNow 13 = .ok (.astore 4, 2) := by decide +kernel
theorem d_Mo_wouldNow_15 : decode c_Mo_wouldNow 15 = .ok (.aload_n 0, 1) := by decide +kernel
theorem d_Mo_wouldNow_16 : decode c_Mo_wouldNow 16 = .ok (.aload 4, 2) := by decide +kernel
theorem d_Mo_wouldNow_18 : decode c_Mo_wouldNow 18 = .ok (.iload_n 2, 1) := by decide +kernel
theorem d_Mo_wouldNow_19 : decode c_Mo_wouldNow 19 = .ok (.invokevirtual 150, 3) := by decide +kernel
theorem d_Mo_wouldNow_22 : decode c_Mo_wouldNow 22 = .ok (.istore 5, 2) := by decide +kernel
theorem d_Mo_wouldNow_24 : decode c_Mo_wouldNow 24 = .ok (.iload_n 3, 1) := by decide +kernel
theorem d_Mo_wouldNow_25 : decode c_Mo_wouldNow 25 = .ok (.ifCond .ne 9, 3) := by decide +kernel
theorem d_Mo_wouldNow_28 : decode c_Mo_wouldNow 28 = .ok (.iload 5, 2) := by decide +kernel
theorem d_Mo_wouldNow_30 : decode c_Mo_wouldNow 30 = .ok (.invokestatic 66, 3) := by decide +kernel
theorem d_Mo_wouldNow_33 : decode c_Mo_wouldNow 33 = .ok (.ireturn, 1) := by decide +kernel
theorem d_Mo_wouldNow_34 : decode c_Mo_wouldNow 34 = .ok (.iload_n 3, 1) := by decide +kernel
theorem d_Mo_wouldNow_35 : decode c_Mo_wouldNow 35 = .ok (.iconst 1, 1) := by decide +kernel
theorem d_Mo_wouldNow_36 : decode c_Mo_wouldNow 36 = .ok (.if_icmp .ne 20, 3) := by decide +kernel
theorem d_Mo_wouldNow_39 : decode c_Mo_wouldNow 39 = .ok (.aload_n 0, 1) := by decide +kernel
theorem d_Mo_wouldNow_40 : decode c_Mo_wouldNow 40 = .ok (.aload 4, 2) := by decide +kernel
theorem d_Mo_wouldNow_42 : decode c_Mo_wouldNow 42 = .ok (.iload 5, 2) := by decide +kernel
theorem d_Mo_wouldNow_44 : decode c_Mo_wouldNow 44 = .ok (.invokevirtual 172, 3) := by decide +kernel
theorem d_Mo_wouldNow_47 : decode c_Mo_wouldNow 47 = .ok (.ifCond .eq 7, 3) := by decide +kernel
theorem d_Mo_wouldNow_50 : decode c_Mo_wouldNow 50 = .ok (.iconst 1, 1) := by decide +kernel
theorem d_Mo_wouldNow_51 : decode c_Mo_wouldNow 51 = .ok (.goto 4, 3) := by decide +kernel
theorem d_Mo_wouldNow_54 : decode c_Mo_wouldNow 54 = .ok (.iconst 0, 1) := by decide +kernel
theorem d_Mo_wouldNow_55 : decode c_Mo_wouldNow 55 = .ok (.ireturn, 1) := by decide +kernel
theorem d_Mo_wouldNow_56 : decode c_Mo_wouldNow 56 = .ok (.iload 5, 2) := by decide +kernel
theorem d_Mo_wouldNow_58 : decode c_Mo_wouldNow 58 = .ok (.invokestatic 66, 3) := by decide +kernel
theorem d_Mo_wouldNow_61 : decode c_Mo_wouldNow 61 = .ok (.aload 4, 2) := by decide +kernel
theorem d_Mo_wouldNow_63 : decode c_Mo_wouldNow 63 = .ok (.getfield 69, 3) := by decide +kernel
theorem d_Mo_wouldNow_66 : decode c_Mo_wouldNow 66 = .ok (.if_icmp .ge 14, 3) := by decide +kernel
theorem d_Mo_wouldNow_69 : decode c_Mo_wouldNow 69 = .ok (.iload_n 3, 1) := by decide +kernel
theorem d_Mo_wouldNow_70 : decode c_Mo_wouldNow 70 = .ok (.iconst 3, 1) := by decide +kernel
theorem d_Mo_wouldNow_71 : decode c_Mo_wouldNow 71 = .ok (.if_icmp .ne 7, 3) := by decide +kernel
theorem d_Mo_wouldNow_74 : decode c_Mo_wouldNow 74 = .ok (.iconst (-1), 1) := by decide +kernel
theorem d_Mo_wouldNow_75 : decode c_Mo_wouldNow 75 = .ok (.goto 4, 3) := by decide +kernel
theorem d_Mo_wouldNow_78 : decode c_Mo_wouldNow 78 = .ok (.iconst 0, 1) := by decide +kernel
theorem d_Mo_wouldNow_79 : decode c_Mo_wouldNow 79 = .ok (.ireturn, 1) := by decide +kernel
theorem d_Mo_wouldNow_80 : decode c_Mo_wouldNow 80 = .ok (.aload_n 0, 1) := by decide +kernel
theorem d_Mo_wouldNow_81 : decode c_Mo_wouldNow 81 = .ok (.aload 4, 2) := by decide +kernel
theorem d_Mo_wouldNow_83 : decode c_Mo_wouldNow 83 = .ok (.iload 5, 2) := by decide +kernel
theorem d_Mo_wouldNow_85 : decode c_Mo_wouldNow 85 = .ok (.invokevirtual 91, 3) := by decide +kernel
theorem d_Mo_wouldNow_88 : decode c_Mo_wouldNow 88 = .ok (.istore 6, 2) := by decide +kernel
theorem d_Mo_wouldNow_90 : decode c_Mo_wouldNow 90 = .ok (.aload_n 0, 1) := by decide +kernel
theorem d_Mo_wouldNow_91 : decode c_Mo_wouldNow 91 = .ok (.aload 4, 2) := by decide +kernel
theorem d_Mo_wouldNow_93 : decode c_Mo_wouldNow 93 = .ok (.iload 5, 2) := by decide +kernel
theorem d_Mo_wouldNow_95 : decode c_Mo_wouldNow 95 = .ok (.iload 6, 2) := by decide +kernel
theorem d_Mo_wouldNow_97 : decode c_Mo_wouldNow 97 = .ok (.invokevirtual 72, 3) := by decide +kernel
theorem d_Mo_wouldNow_100 : decode c_Mo_wouldNow 100 = .ok (.istore 7, 2) := by decide +kernel
theorem d_Mo_wouldNow_102 : decode c_Mo_wouldNow 102 = .ok (.iload 5, 2) := by decide +kernel
theorem d_Mo_wouldNow_104 : decode c_Mo_wouldNow 104 = .ok (.iload 7, 2) := by decide +kernel
theorem d_Mo_wouldNow_106 : decode c_Mo_wouldNow 106 = .ok (.iconst (-1), 1) := by decide +kernel
theorem d_Mo_wouldNow_107 : decode c_Mo_wouldNow 107 = .ok (.ixor, 1) := by decide +kernel
theorem d_Mo_wouldNow_108 : decode c_Mo_wouldNow 108 = .ok (.iand, 1) := by decide +kernel
theorem d_Mo_wouldNow_109 : decode c_Mo_wouldNow 109 = .ok (.invokestatic 66, 3) := by decide +kernel
theorem d_Mo_wouldNow_112 : decode c_Mo_wouldNow 112 = .ok (.iload 5, 2) := by decide +kernel
theorem d_Mo_wouldNow_114 : decode c_Mo_wouldNow 114 = .ok (.invokestatic 66, 3) := by decide +kernel
theorem d_Mo_wouldNow_117 : decode c_Mo_wouldNow 117 = .ok (.aload 4, 2) := by decide +kernel
theorem d_Mo_wouldNow_119 : decode c_Mo_wouldNow 119 = .ok (.getfield 69, 3) := by decide +kernel
theorem d_Mo_wouldNow_122 : decode c_Mo_wouldNow 122 = .ok (.isub, 1) := by decide +kernel
theorem d_Mo_wouldNow_123 : decode c_Mo_wouldNow 123 = .ok (.iconst 2, 1) := by decide +kernel
theorem d_Mo_wouldNow_124 : decode c_Mo_wouldNow 124 = .ok (.idiv, 1) := by decide +kernel
theorem d_Mo_wouldNow_125 : decode c_Mo_wouldNow 125 = .ok (.if_icmp .gt 7, 3) := by decide +kernel
theorem d_Mo_wouldNow_128 : decode c_Mo_wouldNow 128 = .ok (.iconst 1, 1) := by decide +kernel
theorem d_Mo_wouldNow_129 : decode c_Mo_wouldNow 129 = .ok (.goto 4, 3) := by decide +kernel
theorem d_Mo_wouldNow_132 : decode c_Mo_wouldNow 132 = .ok (.iconst 0, 1) := by decide +kernel
theorem d_Mo_wouldNow_133 : decode c_Mo_wouldNow 133 = .ok (.istore 8, 2) := by decide +kernel
theorem d_Mo_wouldNow_135 : decode c_Mo_wouldNow 135 = .ok (.iload_n 3, 1) := by decide +kernel
theorem d_Mo_wouldNow_136 : decode c_Mo_wouldNow 136 = .ok (.iconst 5, 1) := by decide +kernel
theorem d_Mo_wouldNow_137 : decode c_Mo_wouldNow 137 = .ok (.if_icmp .ne 9, 3) := by decide +kernel
theorem d_Mo_wouldNow_140 : decode c_Mo_wouldNow 140 = .ok (.iload 7, 2) := by decide +kernel
theorem d_Mo_wouldNow_142 : decode c_Mo_wouldNow 142 = .ok (.invokestatic 66, 3) := by decide +kernel
theorem d_Mo_wouldNow_145 : decode c_Mo_wouldNow 145 = .ok (.ireturn, 1) := by decide +kernel
theorem d_Mo_wouldNow_146 : decode c_Mo_wouldNow 146 = .ok (.iload 8, 2) := by decide +kernel
theorem d_Mo_wouldNow_148 : decode c_Mo_wouldNow 148 = .ok (.ifCond .ne 14, 3) := by decide +kernel
theorem d_Mo_wouldNow_151 : decode c_Mo_wouldNow 151 = .ok (.iload_n 3, 1) := by decide +kernel
theorem d_Mo_wouldNow_152 : decode c_Mo_wouldNow 152 = .ok (.iconst 3, 1) := by decide +kernel
theorem d_Mo_wouldNow_153 : decode c_Mo_wouldNow 153 = .ok (.if_icmp .ne 7, 3) := by decide +kernel
theorem d_Mo_wouldNow_156 : decode c_Mo_wouldNow 156 = .ok (.iconst (-1), 1) := by decide +kernel
theorem d_Mo_wouldNow_157 : decode c_Mo_wouldNow 157 = .ok (.goto 4, 3) := by decide +kernel
theorem d_Mo_wouldNow_160 : decode c_Mo_wouldNow 160 = .ok (.iconst 0, 1) := by decide +kernel
theorem d_Mo_wouldNow_161 : decode c_Mo_wouldNow 161 = .ok (.ireturn, 1) := by decide +kernel
theorem d_Mo_wouldNow_162 : decode c_Mo_wouldNow 162 = .ok (.iload_n 3, 1) := by decide +kernel
theorem d_Mo_wouldNow_163 : decode c_Mo_wouldNow 163 = .ok (.iconst 2, 1) := by decide +kernel
theorem d_Mo_wouldNow_164 : decode c_Mo_wouldNow 164 = .ok (.if_icmp .ne 7, 3) := by decide +kernel
theorem d_Mo_wouldNow_167 : decode c_Mo_wouldNow 167 = .ok (.iconst 1, 1) := by decide +kernel
theorem d_Mo_wouldNow_168 : decode c_Mo_wouldNow 168 = .ok (.goto 27, 3) := by decide +kernel
theorem d_Mo_wouldNow_171 : decode c_Mo_wouldNow 171 = .ok (.iload_n 3, 1) := by decide +kernel
theorem d_Mo_wouldNow_172 : decode c_Mo_wouldNow 172 = .ok (.iconst 3, 1) := by decide +kernel
theorem d_Mo_wouldNow_173 : decode c_Mo_wouldNow 173 = .ok (.if_icmp .ne 15, 3) := by decide +kernel
theorem d_Mo_wouldNow_176 : decode c_Mo_wouldNow 176 = .ok (.aload_n 0, 1) := by decide +kernel
theorem d_Mo_wouldNow_177 : decode c_Mo_wouldNow 177 = .ok (.aload 4, 2) := by decide +kernel
theorem d_Mo_wouldNow_179 : decode c_Mo_wouldNow 179 = .ok (.iload 6, 2) := by decide +kernel
theorem d_Mo_wouldNow_181 : decode c_Mo_wouldNow 181 = .ok (.iconst 0, 1) := by decide +kernel
theorem d_Mo_wouldNow_182 : decode c_Mo_wouldNow 182 = .ok (.invokevirtual 88, 3) := by decide +kernel
theorem d_Mo_wouldNow_185 : decode c_Mo_wouldNow 185 = .ok (.goto 10, 3) := by decide +kernel
theorem d_Mo_wouldNow_188 : decode c_Mo_wouldNow 188 = .ok (.iload 5, 2) := by decide +kernel
theorem d_Mo_wouldNow_190 : decode c_Mo_wouldNow 190 = .ok (.iload 7, 2) := by decide +kernel
theorem d_Mo_wouldNow_192 : decode c_Mo_wouldNow 192 = .ok (.iconst (-1), 1) := by decide +kernel
theorem d_Mo_wouldNow_193 : decode c_Mo_wouldNow 193 = .ok (.ixor, 1) := by decide +kernel
theorem d_Mo_wouldNow_194 : decode c_Mo_wouldNow 194 = .ok (.iand, 1) := by decide +kernel
theorem d_Mo_wouldNow_195 : decode c_Mo_wouldNow 195 = .ok (.ireturn, 1) := by decide +kernel
set_option maxHeartbeats 4000000 in
set_option maxRecDepth 100000 in
theorem m_Mo_wouldNow {g0 : State} {d : zD} {l : Launch} {a0 : Array Value} (hs0 : zS0 d a0 g0) (hst : l.stackTraces = false) {G : zG} {B : Nat → Nat} {V : Nat → Nat → Int32} {nk ns ne ec : Nat} (hM : zM d B V nk ns ne ec G) {si : Nat} (hsi : si < ns) {g : Nat} (hg : g < 2 ^ nk) (w : Int32) : zMet g0 d l y_Mo_wouldNow c_Mo_wouldNow 9 ((Option.some Jvm.ClassFile.FieldType.int)) 15 0 0 [.ref (B 0), .int (nI si), .int (nI g), .int w] (G) (mTs d B nk ns ne ec V G zrI) (zNo) := by
  have hnk : nk ≤ 8 := hM.2.1
  have hns : ns ≤ 6 := hM.2.2.1
  have hne : ne ≤ 64 := hM.2.2.2.1
  have hp2 : 2 ^ nk ≤ 256 := Nat.pow_le_pow_right (n := 2) (by decide) hnk
  refine z_entry hs0 hst (by decide) (Nat.le_of_ble_eq_true rfl) (fun p e s m args below meth c => ?_)
  refine z_aload_n 0 d_Mo_wouldNow_0 rfl rfl ?_
  refine z_get zc_Mo 7 (by decide) qF_Mo_20 hM.mo rfl d_Mo_wouldNow_1 ?_
  refine z_iload_n 1 d_Mo_wouldNow_4 rfl rfl ?_
  refine z_callF0 (m_AL_get hs0 hst (hM.sA hsi) hsi (if_pos hsi)) ym_AL_get zF_AL_get qM_Mo_51 zc_AL (hM.sA hsi).1 d_Mo_wouldNow_5 rfl (Nat.le_of_ble_eq_true rfl) ⟨Nat.zero_le _, Nat.zero_le _⟩ ⟨Nat.le_of_ble_eq_true rfl, Nat.le_of_ble_eq_true rfl⟩ ?_
  refine z_castS zc_MS qK_Mo_47 (hM.se hsi).1 d_Mo_wouldNow_10 ?_
  refine z_astore (L' := [(4, _), (0, _), (1, _), (2, _), (3, _)]) d_Mo_wouldNow_13 (by decide) rfl ?_
  refine z_aload_n 1 d_Mo_wouldNow_15 rfl rfl ?_
  refine z_aload 0 d_Mo_wouldNow_16 rfl ?_
  refine z_iload_n 3 d_Mo_wouldNow_18 rfl rfl ?_
  refine z_callVp0 ((m_Mo_groupQ hs0 hst hM hsi hg)) ym_Mo_group qM_Mo_150 qI_Mo_group qV_Mo_Mo_group zc_Mo hM.mo d_Mo_wouldNow_19 rfl (Nat.le_of_ble_eq_true rfl) ⟨Nat.zero_le _, Nat.zero_le _⟩ ⟨Nat.le_of_ble_eq_true rfl, Nat.le_of_ble_eq_true rfl⟩ (fun r_19 G_19 hp_19 => ?_)
  obtain ⟨⟨q9, hq9, rfl⟩, rfl⟩ := hp_19
  refine z_istore (L' := [(5, _), (4, _), (0, _), (1, _), (2, _), (3, _)]) d_Mo_wouldNow_22 (by decide) rfl ?_
  refine z_iload_n 5 d_Mo_wouldNow_24 rfl rfl ?_
  refine z_if_ne 34 d_Mo_wouldNow_25 (by decide) (fun c_25 => ?_) (fun c_25 => ?_)
  · skip
    refine z_iload_n 5 d_Mo_wouldNow_34 rfl rfl ?_
    refine z_iconst (v := 1) d_Mo_wouldNow_35 (by decide) ?_
    refine z_icmp_ne 56 d_Mo_wouldNow_36 (by decide) (fun c_36 => ?_) (fun c_36 => ?_)
    · skip
      refine z_iload 0 d_Mo_wouldNow_56 rfl ?_
      refine z_callS0 ((m_Mo_size hs0 hst (nn := q9) (by omega))) ym_Mo_size qM_Mo_66 qS_Mo_size d_Mo_wouldNow_58 rfl (Nat.le_of_ble_eq_true rfl) ⟨Nat.zero_le _, Nat.zero_le _⟩ ⟨Nat.le_of_ble_eq_true rfl, Nat.le_of_ble_eq_true rfl⟩ ?_
      refine z_aload 1 d_Mo_wouldNow_61 rfl ?_
      refine z_get zc_MS 0 (by decide) qF_Mo_69 (hM.se hsi).1 rfl d_Mo_wouldNow_63 ?_
      refine z_icmp_ge 80 d_Mo_wouldNow_66 (by decide) (fun c_66 => ?_) (fun c_66 => ?_)
      · skip
        refine z_aload_n 2 d_Mo_wouldNow_80 rfl rfl ?_
        refine z_aload 1 d_Mo_wouldNow_81 rfl ?_
        refine z_iload 0 d_Mo_wouldNow_83 rfl ?_
        refine z_callVp0 (m_Mo_best hs0 hst hM hsi hq9) ym_Mo_best qM_Mo_91 qI_Mo_best qV_Mo_Mo_best zc_Mo hM.mo d_Mo_wouldNow_85 rfl (Nat.le_of_ble_eq_true rfl) ⟨Nat.zero_le _, Nat.zero_le _⟩ ⟨Nat.le_of_ble_eq_true rfl, Nat.le_of_ble_eq_true rfl⟩ (fun r_85 G_85 hp_85 => ?_)
        obtain ⟨⟨b1, hb1, rfl⟩, V1, hM1, hK1, hF1⟩ := hp_85
        refine z_istore (L' := [(6, _), (5, _), (4, _), (0, _), (1, _), (2, _), (3, _)]) d_Mo_wouldNow_88 (by decide) rfl ?_
        refine z_aload_n 3 d_Mo_wouldNow_90 rfl rfl ?_
        refine z_aload 2 d_Mo_wouldNow_91 rfl ?_
        refine z_iload 1 d_Mo_wouldNow_93 rfl ?_
        refine z_iload 0 d_Mo_wouldNow_95 rfl ?_
        refine z_callVp0 (m_Mo_agreeing hs0 hst hM1 hsi hq9 hb1) ym_Mo_agreeing qM_Mo_72 qI_Mo_agreeing qV_Mo_Mo_agreeing zc_Mo hM1.mo d_Mo_wouldNow_97 rfl (Nat.le_of_ble_eq_true rfl) ⟨Nat.zero_le _, Nat.zero_le _⟩ ⟨Nat.le_of_ble_eq_true rfl, Nat.le_of_ble_eq_true rfl⟩ (fun r_97 G_97 hp_97 => ?_)
        obtain ⟨⟨q2, hq2, rfl⟩, V2, hM2, hK2, hF2⟩ := hp_97
        refine z_istore (L' := [(7, _), (6, _), (5, _), (4, _), (0, _), (1, _), (2, _), (3, _)]) d_Mo_wouldNow_100 (by decide) rfl ?_
        refine z_iload 2 d_Mo_wouldNow_102 rfl ?_
        refine z_iload 0 d_Mo_wouldNow_104 rfl ?_
        refine z_iconst (v := (-1)) d_Mo_wouldNow_106 (by decide) ?_
        refine z_ixor d_Mo_wouldNow_107 ?_
        refine z_iand d_Mo_wouldNow_108 ?_
        refine z_callSp0 ((m_Mo_sizeA hs0 hst _)) ym_Mo_size qM_Mo_66 qS_Mo_size d_Mo_wouldNow_109 rfl (Nat.le_of_ble_eq_true rfl) ⟨Nat.zero_le _, Nat.zero_le _⟩ ⟨Nat.le_of_ble_eq_true rfl, Nat.le_of_ble_eq_true rfl⟩ (fun r_109 G_109 hp_109 => ?_)
        obtain ⟨⟨v_109, rfl⟩, rfl⟩ := hp_109
        refine z_iload 2 d_Mo_wouldNow_112 rfl ?_
        refine z_callS0 ((m_Mo_size hs0 hst (nn := q9) (by omega))) ym_Mo_size qM_Mo_66 qS_Mo_size d_Mo_wouldNow_114 rfl (Nat.le_of_ble_eq_true rfl) ⟨Nat.zero_le _, Nat.zero_le _⟩ ⟨Nat.le_of_ble_eq_true rfl, Nat.le_of_ble_eq_true rfl⟩ ?_
        refine z_aload 3 d_Mo_wouldNow_117 rfl ?_
        refine z_get zc_MS 0 (by decide) qF_Mo_69 (hM2.se hsi).1 rfl d_Mo_wouldNow_119 ?_
        refine z_isub d_Mo_wouldNow_122 ?_
        refine z_iconst (v := 2) d_Mo_wouldNow_123 (by decide) ?_
        refine z_idiv d_Mo_wouldNow_124 (by decide) ?_
        refine z_icmp_gt 132 d_Mo_wouldNow_125 (by decide) (fun c_125 => ?_) (fun c_125 => ?_)
        · skip
          refine z_iconst (v := 0) d_Mo_wouldNow_132 (by decide) ?_
          refine z_istore (L' := [(8, _), (7, _), (6, _), (5, _), (4, _), (0, _), (1, _), (2, _), (3, _)]) d_Mo_wouldNow_133 (by decide) rfl ?_
          refine z_iload_n 8 d_Mo_wouldNow_135 rfl rfl ?_
          refine z_iconst (v := 5) d_Mo_wouldNow_136 (by decide) ?_
          refine z_icmp_ne 146 d_Mo_wouldNow_137 (by decide) (fun c_137 => ?_) (fun c_137 => ?_)
          · skip
            refine z_iload 0 d_Mo_wouldNow_146 rfl ?_
            refine z_if_ne 162 d_Mo_wouldNow_148 (by decide) (fun c_148 => ?_) (fun c_148 => ?_)
            · skip
              refine z_iload_n 8 d_Mo_wouldNow_162 rfl rfl ?_
              refine z_iconst (v := 2) d_Mo_wouldNow_163 (by decide) ?_
              refine z_icmp_ne 171 d_Mo_wouldNow_164 (by decide) (fun c_164 => ?_) (fun c_164 => ?_)
              · skip
                refine z_iload_n 8 d_Mo_wouldNow_171 rfl rfl ?_
                refine z_iconst (v := 3) d_Mo_wouldNow_172 (by decide) ?_
                refine z_icmp_ne 188 d_Mo_wouldNow_173 (by decide) (fun c_173 => ?_) (fun c_173 => ?_)
                · skip
                  refine z_iload 3 d_Mo_wouldNow_188 rfl ?_
                  refine z_iload 1 d_Mo_wouldNow_190 rfl ?_
                  refine z_iconst (v := (-1)) d_Mo_wouldNow_192 (by decide) ?_
                  refine z_ixor d_Mo_wouldNow_193 ?_
                  refine z_iand d_Mo_wouldNow_194 ?_
                  exact z_iret rfl (by first | exact ⟨⟨_, rfl⟩, V3, hM3, (hK1.tr hK2).tr hK3, (hF1.tr hF2).tr hF3⟩ | exact ⟨⟨_, rfl⟩, V2, hM2, hK1.tr hK2, hF1.tr hF2⟩) (by first | decide | omega) (by first | decide | omega) d_Mo_wouldNow_195
                · skip
                  refine z_aload_n 5 d_Mo_wouldNow_176 rfl rfl ?_
                  refine z_aload 4 d_Mo_wouldNow_177 rfl ?_
                  refine z_iload 2 d_Mo_wouldNow_179 rfl ?_
                  refine z_iconst (v := 0) d_Mo_wouldNow_181 (by decide) ?_
                  refine z_callVp0 (m_Mo_along hs0 hst hM2 hsi hb1 _) ym_Mo_along qM_Mo_88 qI_Mo_along qV_Mo_Mo_along zc_Mo hM2.mo d_Mo_wouldNow_182 rfl (Nat.le_of_ble_eq_true rfl) ⟨Nat.zero_le _, Nat.zero_le _⟩ ⟨Nat.le_of_ble_eq_true rfl, Nat.le_of_ble_eq_true rfl⟩ (fun r_182 G_182 hp_182 => ?_)
                  obtain ⟨⟨v_182, rfl⟩, V3, hM3, hK3, hF3⟩ := hp_182
                  refine z_goto 195 d_Mo_wouldNow_185 (by decide) ?_
                  exact z_iret rfl (by first | exact ⟨⟨_, rfl⟩, V3, hM3, (hK1.tr hK2).tr hK3, (hF1.tr hF2).tr hF3⟩ | exact ⟨⟨_, rfl⟩, V2, hM2, hK1.tr hK2, hF1.tr hF2⟩) (by first | decide | omega) (by first | decide | omega) d_Mo_wouldNow_195
              · skip
                refine z_iconst (v := 1) d_Mo_wouldNow_167 (by decide) ?_
                refine z_goto 195 d_Mo_wouldNow_168 (by decide) ?_
                exact z_iret rfl (by first | exact ⟨⟨_, rfl⟩, V3, hM3, (hK1.tr hK2).tr hK3, (hF1.tr hF2).tr hF3⟩ | exact ⟨⟨_, rfl⟩, V2, hM2, hK1.tr hK2, hF1.tr hF2⟩) (by first | decide | omega) (by first | decide | omega) d_Mo_wouldNow_195
            · skip
              refine z_iload_n 8 d_Mo_wouldNow_151 rfl rfl ?_
              refine z_iconst (v := 3) d_Mo_wouldNow_152 (by decide) ?_
              refine z_icmp_ne 160 d_Mo_wouldNow_153 (by decide) (fun c_153 => ?_) (fun c_153 => ?_)
              · skip
                refine z_iconst (v := 0) d_Mo_wouldNow_160 (by decide) ?_
                exact z_iret rfl (⟨⟨_, rfl⟩, V2, hM2, hK1.tr hK2, hF1.tr hF2⟩) (by first | decide | omega) (by first | decide | omega) d_Mo_wouldNow_161
              · skip
                refine z_iconst (v := (-1)) d_Mo_wouldNow_156 (by decide) ?_
                refine z_goto 161 d_Mo_wouldNow_157 (by decide) ?_
                exact z_iret rfl (⟨⟨_, rfl⟩, V2, hM2, hK1.tr hK2, hF1.tr hF2⟩) (by first | decide | omega) (by first | decide | omega) d_Mo_wouldNow_161
          · skip
            refine z_iload 1 d_Mo_wouldNow_140 rfl ?_
            refine z_callS0 ((m_Mo_size hs0 hst (nn := q2) (by omega))) ym_Mo_size qM_Mo_66 qS_Mo_size d_Mo_wouldNow_142 rfl (Nat.le_of_ble_eq_true rfl) ⟨Nat.zero_le _, Nat.zero_le _⟩ ⟨Nat.le_of_ble_eq_true rfl, Nat.le_of_ble_eq_true rfl⟩ ?_
            exact z_iret rfl (⟨⟨_, rfl⟩, V2, hM2, hK1.tr hK2, hF1.tr hF2⟩) (by first | decide | omega) (by first | decide | omega) d_Mo_wouldNow_145
        · skip
          refine z_iconst (v := 1) d_Mo_wouldNow_128 (by decide) ?_
          refine z_goto 133 d_Mo_wouldNow_129 (by decide) ?_
          refine z_istore (L' := [(8, _), (7, _), (6, _), (5, _), (4, _), (0, _), (1, _), (2, _), (3, _)]) d_Mo_wouldNow_133 (by decide) rfl ?_
          refine z_iload_n 8 d_Mo_wouldNow_135 rfl rfl ?_
          refine z_iconst (v := 5) d_Mo_wouldNow_136 (by decide) ?_
          refine z_icmp_ne 146 d_Mo_wouldNow_137 (by decide) (fun c_137 => ?_) (fun c_137 => ?_)
          · skip
            refine z_iload 0 d_Mo_wouldNow_146 rfl ?_
            refine z_if_ne 162 d_Mo_wouldNow_148 (by decide) (fun c_148 => ?_) (fun c_148 => ?_)
            · skip
              refine z_iload_n 8 d_Mo_wouldNow_162 rfl rfl ?_
              refine z_iconst (v := 2) d_Mo_wouldNow_163 (by decide) ?_
              refine z_icmp_ne 171 d_Mo_wouldNow_164 (by decide) (fun c_164 => ?_) (fun c_164 => ?_)
              · skip
                refine z_iload_n 8 d_Mo_wouldNow_171 rfl rfl ?_
                refine z_iconst (v := 3) d_Mo_wouldNow_172 (by decide) ?_
                refine z_icmp_ne 188 d_Mo_wouldNow_173 (by decide) (fun c_173 => ?_) (fun c_173 => ?_)
                · skip
                  refine z_iload 3 d_Mo_wouldNow_188 rfl ?_
                  refine z_iload 1 d_Mo_wouldNow_190 rfl ?_
                  refine z_iconst (v := (-1)) d_Mo_wouldNow_192 (by decide) ?_
                  refine z_ixor d_Mo_wouldNow_193 ?_
                  refine z_iand d_Mo_wouldNow_194 ?_
                  exact z_iret rfl (by first | exact ⟨⟨_, rfl⟩, V3, hM3, (hK1.tr hK2).tr hK3, (hF1.tr hF2).tr hF3⟩ | exact ⟨⟨_, rfl⟩, V2, hM2, hK1.tr hK2, hF1.tr hF2⟩) (by first | decide | omega) (by first | decide | omega) d_Mo_wouldNow_195
                · skip
                  refine z_aload_n 5 d_Mo_wouldNow_176 rfl rfl ?_
                  refine z_aload 4 d_Mo_wouldNow_177 rfl ?_
                  refine z_iload 2 d_Mo_wouldNow_179 rfl ?_
                  refine z_iconst (v := 0) d_Mo_wouldNow_181 (by decide) ?_
                  refine z_callVp0 (m_Mo_along hs0 hst hM2 hsi hb1 _) ym_Mo_along qM_Mo_88 qI_Mo_along qV_Mo_Mo_along zc_Mo hM2.mo d_Mo_wouldNow_182 rfl (Nat.le_of_ble_eq_true rfl) ⟨Nat.zero_le _, Nat.zero_le _⟩ ⟨Nat.le_of_ble_eq_true rfl, Nat.le_of_ble_eq_true rfl⟩ (fun r_182 G_182 hp_182 => ?_)
                  obtain ⟨⟨v_182, rfl⟩, V3, hM3, hK3, hF3⟩ := hp_182
                  refine z_goto 195 d_Mo_wouldNow_185 (by decide) ?_
                  exact z_iret rfl (by first | exact ⟨⟨_, rfl⟩, V3, hM3, (hK1.tr hK2).tr hK3, (hF1.tr hF2).tr hF3⟩ | exact ⟨⟨_, rfl⟩, V2, hM2, hK1.tr hK2, hF1.tr hF2⟩) (by first | decide | omega) (by first | decide | omega) d_Mo_wouldNow_195
              · skip
                refine z_iconst (v := 1) d_Mo_wouldNow_167 (by decide) ?_
                refine z_goto 195 d_Mo_wouldNow_168 (by decide) ?_
                exact z_iret rfl (by first | exact ⟨⟨_, rfl⟩, V3, hM3, (hK1.tr hK2).tr hK3, (hF1.tr hF2).tr hF3⟩ | exact ⟨⟨_, rfl⟩, V2, hM2, hK1.tr hK2, hF1.tr hF2⟩) (by first | decide | omega) (by first | decide | omega) d_Mo_wouldNow_195
            · skip
              refine z_iload_n 8 d_Mo_wouldNow_151 rfl rfl ?_
              refine z_iconst (v := 3) d_Mo_wouldNow_152 (by decide) ?_
              refine z_icmp_ne 160 d_Mo_wouldNow_153 (by decide) (fun c_153 => ?_) (fun c_153 => ?_)
              · skip
                refine z_iconst (v := 0) d_Mo_wouldNow_160 (by decide) ?_
                exact z_iret rfl (⟨⟨_, rfl⟩, V2, hM2, hK1.tr hK2, hF1.tr hF2⟩) (by first | decide | omega) (by first | decide | omega) d_Mo_wouldNow_161
              · skip
                refine z_iconst (v := (-1)) d_Mo_wouldNow_156 (by decide) ?_
                refine z_goto 161 d_Mo_wouldNow_157 (by decide) ?_
                exact z_iret rfl (⟨⟨_, rfl⟩, V2, hM2, hK1.tr hK2, hF1.tr hF2⟩) (by first | decide | omega) (by first | decide | omega) d_Mo_wouldNow_161
          · skip
            refine z_iload 1 d_Mo_wouldNow_140 rfl ?_
            refine z_callS0 ((m_Mo_size hs0 hst (nn := q2) (by omega))) ym_Mo_size qM_Mo_66 qS_Mo_size d_Mo_wouldNow_142 rfl (Nat.le_of_ble_eq_true rfl) ⟨Nat.zero_le _, Nat.zero_le _⟩ ⟨Nat.le_of_ble_eq_true rfl, Nat.le_of_ble_eq_true rfl⟩ ?_
            exact z_iret rfl (⟨⟨_, rfl⟩, V2, hM2, hK1.tr hK2, hF1.tr hF2⟩) (by first | decide | omega) (by first | decide | omega) d_Mo_wouldNow_145
      · skip
        refine z_iload_n 5 d_Mo_wouldNow_69 rfl rfl ?_
        refine z_iconst (v := 3) d_Mo_wouldNow_70 (by decide) ?_
        refine z_icmp_ne 78 d_Mo_wouldNow_71 (by decide) (fun c_71 => ?_) (fun c_71 => ?_)
        · skip
          refine z_iconst (v := 0) d_Mo_wouldNow_78 (by decide) ?_
          exact z_iret rfl (⟨⟨_, rfl⟩, V, hM, zKp.rf, zFr.rf⟩) (by first | decide | omega) (by first | decide | omega) d_Mo_wouldNow_79
        · skip
          refine z_iconst (v := (-1)) d_Mo_wouldNow_74 (by decide) ?_
          refine z_goto 79 d_Mo_wouldNow_75 (by decide) ?_
          exact z_iret rfl (⟨⟨_, rfl⟩, V, hM, zKp.rf, zFr.rf⟩) (by first | decide | omega) (by first | decide | omega) d_Mo_wouldNow_79
    · skip
      refine z_aload_n 2 d_Mo_wouldNow_39 rfl rfl ?_
      refine z_aload 1 d_Mo_wouldNow_40 rfl ?_
      refine z_iload 0 d_Mo_wouldNow_42 rfl ?_
      refine z_callVp0 (m_Mo_isLawful hs0 hst hM hsi _) ym_Mo_isLawful qM_Mo_172 qI_Mo_isLawful qV_Mo_Mo_isLawful zc_Mo hM.mo d_Mo_wouldNow_44 rfl (Nat.le_of_ble_eq_true rfl) ⟨Nat.zero_le _, Nat.zero_le _⟩ ⟨Nat.le_of_ble_eq_true rfl, Nat.le_of_ble_eq_true rfl⟩ (fun r_44 G_44 hp_44 => ?_)
      obtain ⟨⟨v_44, rfl⟩, rfl⟩ := hp_44
      refine z_if_eq 54 d_Mo_wouldNow_47 (by decide) (fun c_47 => ?_) (fun c_47 => ?_)
      · skip
        refine z_iconst (v := 0) d_Mo_wouldNow_54 (by decide) ?_
        exact z_iret rfl (⟨⟨_, rfl⟩, V, hM, zKp.rf, zFr.rf⟩) (by first | decide | omega) (by first | decide | omega) d_Mo_wouldNow_55
      · skip
        refine z_iconst (v := 1) d_Mo_wouldNow_50 (by decide) ?_
        refine z_goto 55 d_Mo_wouldNow_51 (by decide) ?_
        exact z_iret rfl (⟨⟨_, rfl⟩, V, hM, zKp.rf, zFr.rf⟩) (by first | decide | omega) (by first | decide | omega) d_Mo_wouldNow_55
  · skip
    refine z_iload 0 d_Mo_wouldNow_28 rfl ?_
    refine z_callS0 ((m_Mo_size hs0 hst (nn := q9) (by omega))) ym_Mo_size qM_Mo_66 qS_Mo_size d_Mo_wouldNow_30 rfl (Nat.le_of_ble_eq_true rfl) ⟨Nat.zero_le _, Nat.zero_le _⟩ ⟨Nat.le_of_ble_eq_true rfl, Nat.le_of_ble_eq_true rfl⟩ ?_
    exact z_iret rfl (⟨⟨_, rfl⟩, V, hM, zKp.rf, zFr.rf⟩) (by first | decide | omega) (by first | decide | omega) d_Mo_wouldNow_33
