theorem d_Mo_along_0 : decode c_Mo_along 0 = .ok (.iconst 0, 1) := by decide +kernel
theorem d_Mo_along_1 : decode c_Mo_along 1 = .ok (.istore 4, 2) := by decide +kernel
theorem d_Mo_along_3 : decode c_Mo_along 3 = .ok (.iconst 0, 1) := by decide +kernel
theorem d_Mo_along_4 : decode c_Mo_along 4 = .ok (.istore 5, 2) := by decide +kernel
theorem d_Mo_along_6 : decode c_Mo_along 6 = .ok (.iload 5, 2) := by decide +kernel
theorem d_Mo_along_8 : decode c_Mo_along 8 = .ok (.bipush 8, 2) := by decide +kernel
theorem d_Mo_along_10 : decode c_Mo_along 10 = .ok (.if_icmp .ge 49, 3) := by decide +kernel
theorem d_Mo_along_13 : decode c_Mo_along 13 = .ok (.iload_n 2, 1) := by decide +kernel
theorem d_Mo_along_14 : decode c_Mo_along 14 = .ok (.iload 5, 2) := by decide +kernel
theorem d_Mo_along_16 : decode c_Mo_along 16 = .ok (.invokestatic 76, 3) := by decide +kernel
theorem d_Mo_along_19 : decode c_Mo_along 19 = .ok (.ifCond .ne 6, 3) := by decide +kernel
theorem d_Mo_along_22 : decode c_Mo_along 22 = .ok (.goto 31, 3) := by decide +kernel
theorem d_Mo_along_25 : decode c_Mo_along 25 = .ok (.aload_n 0, 1) := by decide +kernel
theorem d_Mo_along_26 : decode c_Mo_along 26 = .ok (.getfield 30, 3) := by decide +kernel
theorem d_Mo_along_29 : decode c_Mo_along 29 = .ok (.iload 4, 2) := by decide +kernel
theorem d_Mo_along_31 : decode c_Mo_along 31 = .ok (.iload 5, 2) := by decide +kernel
theorem d_Mo_along_33 : decode c_Mo_along 33 = .ok (.iconst 1, 1) := by decide +kernel
theorem d_Mo_along_34 : decode c_Mo_along 34 = .ok (.iadd, 1) := by decide +kernel
theorem d_Mo_along_35 : decode c_Mo_along 35 = .ok (.iastore, 1) := by decide +kernel
theorem d_Mo_along_36 : decode c_Mo_along 36 = .ok (.aload_n 0, 1) := by decide +kernel
theorem d_Mo_along_37 : decode c_Mo_along 37 = .ok (.getfield 33, 3) := by decide +kernel
theorem d_Mo_along_40 : decode c_Mo_along 40 = .ok (.iload 4, 2) := by decide +kernel
theorem d_Mo_along_42 : decode c_Mo_along 42 = .ok (.aload_n 0, 1) := by decide +kernel
theorem d_Mo_along_43 : decode c_Mo_along 43 = .ok (.aload_n 1, 1) := by decide +kernel
theorem d_Mo_along_44 : decode c_Mo_along 44 = .ok (.iload 5, 2) := by decide +kernel
theorem d_Mo_along_46 : decode c_Mo_along 46 = .ok (.invokevirtual 80, 3) := by decide +kernel
theorem d_Mo_along_49 : decode c_Mo_along 49 = .ok (.iastore, 1) := by decide +kernel
theorem d_Mo_along_50 : decode c_Mo_along 50 = .ok (.iinc 4 1, 3) := by decide +kernel
theorem d_Mo_along_53 : decode c_Mo_along 53 = .ok (.iinc 5 1, 3) := by decide +kernel
theorem d_Mo_along_56 : decode c_Mo_along 56 = .ok (.goto (-50), 3) := by decide +kernel
theorem d_Mo_along_59 : decode c_Mo_along 59 = .ok (.aload_n 0, 1) := by decide +kernel
theorem d_Mo_along_60 : decode c_Mo_along 60 = .ok (.aload_n 0, 1) := by decide +kernel
theorem d_Mo_along_61 : decode c_Mo_along 61 = .ok (.getfield 30, 3) := by decide +kernel
theorem d_Mo_along_64 : decode c_Mo_along 64 = .ok (.aload_n 0, 1) := by decide +kernel
theorem d_Mo_along_65 : decode c_Mo_along 65 = .ok (.getfield 33, 3) := by decide +kernel
theorem d_Mo_along_68 : decode c_Mo_along 68 = .ok (.iload 4, 2) := by decide +kernel
theorem d_Mo_along_70 : decode c_Mo_along 70 = .ok (.iload_n 3, 1) := by decide +kernel
theorem d_Mo_along_71 : decode c_Mo_along 71 = .ok (.invokevirtual 84, 3) := by decide +kernel
theorem d_Mo_along_74 : decode c_Mo_along 74 = .ok (.ireturn, 1) := by decide +kernel
set_option maxHeartbeats 4000000 in
set_option maxRecDepth 100000 in
theorem m_Mo_along {g0 : State} {d : zD} {l : Launch} {a0 : Array Value} (hs0 : zS0 d a0 g0) (hst : l.stackTraces = false) {G : zG} {B : Nat → Nat} {V : Nat → Nat → Int32} {nk ns ne ec : Nat} (hM : zM d B V nk ns ne ec G) {si : Nat} (hsi : si < ns) {q : Nat} (hq : q < 2 ^ nk) (x : Int32) : zMet g0 d l y_Mo_along c_Mo_along 6 ((Option.some Jvm.ClassFile.FieldType.int)) 12 0 0 [.ref (B 0), .ref (B (200 + si)), .int (nI q), .int x] (G) (mTs d B nk ns ne ec V G zrI) (zNo) := by
  have hnk : nk ≤ 8 := hM.2.1
  have hns : ns ≤ 6 := hM.2.2.1
  have hne : ne ≤ 64 := hM.2.2.2.1
  have hp2 : 2 ^ nk ≤ 256 := Nat.pow_le_pow_right (n := 2) (by decide) hnk
  refine z_entry hs0 hst (by decide) (Nat.le_of_ble_eq_true rfl) (fun p e s m args below meth c => ?_)
  refine z_iconst (v := (nI 0)) d_Mo_along_0 (by decide) ?_
  refine z_istore (L' := [(4, _), (0, _), (1, _), (2, _), (3, _)]) d_Mo_along_1 (by decide) rfl ?_
  refine z_iconst (v := (nI 0)) d_Mo_along_3 (by decide) ?_
  refine z_istore (L' := [(5, _), (4, _), (0, _), (1, _), (2, _), (3, _)]) d_Mo_along_4 (by decide) rfl ?_
  have key_6 : ∀ (n : Nat) (i : Nat) (G2 : zG) (V2 : Nat → Nat → Int32) (ct : Nat), 8 - i < n → (i ≤ 8) → (zM d B V2 nk ns ne ec G2) → (zKp msc V V2) → (mFr B nk ns ne G G2) → (ct ≤ i) → Z g0 d y_Mo_along c_Mo_along 6 ((Option.some Jvm.ClassFile.FieldType.int)) [] p l e (zR 12 0 0) s m args below meth c (vx_MQ below (zQc g0 d (mTs d B nk ns ne ec V G zrI)) (zXc g0 d (zNo)) args s 0 0 (zA g0)) 0 0 (G2) [(5, .int (nI i)), (4, .int (nI ct)), (0, .ref (B 0)), (1, .ref (B (200 + si))), (2, .int (nI q)), (3, .int x)] [] 6 := by
    intro n
    induction n with
    | zero => intro i G2 V2 ct h0; exact absurd h0 (Nat.not_lt_zero _)
    | succ n ih_6 =>
      intro i G2 V2 ct hm_6 hi hM2 hK2 hF2 hmi
      refine z_iload 0 d_Mo_along_6 rfl ?_
      refine z_bipush (v := 8) d_Mo_along_8 (by decide) ?_
      refine z_icmp_ge 59 d_Mo_along_10 (by decide) (fun c_10 => ?_) (fun c_10 => ?_)
      · skip
        obtain rfl : i = 8 := by
          have := (nI_leI (a := 8) (b := i) (by decide) (by omega)).mp c_10
          omega
        refine z_aload_n 2 d_Mo_along_59 rfl rfl ?_
        refine z_aload_n 2 d_Mo_along_60 rfl rfl ?_
        refine z_get zc_Mo 10 (by decide) qF_Mo_30 hM2.mo rfl d_Mo_along_61 ?_
        refine z_aload_n 2 d_Mo_along_64 rfl rfl ?_
        refine z_get zc_Mo 11 (by decide) qF_Mo_33 hM2.mo rfl d_Mo_along_65 ?_
        refine z_iload 1 d_Mo_along_68 rfl ?_
        refine z_iload_n 5 d_Mo_along_70 rfl rfl ?_
        refine z_callV0 (m_Mo_through hs0 hst hM2 hM2.pt hM2.nb (show ct ≤ 8 by omega) (by decide) x) ym_Mo_through qM_Mo_84 qI_Mo_through qV_Mo_Mo_through zc_Mo hM2.mo d_Mo_along_71 rfl (Nat.le_of_ble_eq_true rfl) ⟨Nat.zero_le _, Nat.zero_le _⟩ ⟨Nat.le_of_ble_eq_true rfl, Nat.le_of_ble_eq_true rfl⟩ ?_
        exact z_iret rfl (⟨⟨_, rfl⟩, V2, hM2, hK2, hF2⟩) (by first | decide | omega) (by first | decide | omega) d_Mo_along_74
      · skip
        have hi6 : i < 8 := Nat.lt_of_not_le fun q => c_10 (nI_le (a := 8) (b := i) q (by omega))
        refine z_iload_n 4 d_Mo_along_13 rfl rfl ?_
        refine z_iload 0 d_Mo_along_14 rfl ?_
        refine z_callS0 (m_Mo_has hs0 hst (nI q) (nI i)) ym_Mo_has qM_Mo_76 qS_Mo_has d_Mo_along_16 rfl (Nat.le_of_ble_eq_true rfl) ⟨Nat.zero_le _, Nat.zero_le _⟩ ⟨Nat.le_of_ble_eq_true rfl, Nat.le_of_ble_eq_true rfl⟩ ?_
        refine z_if_ne 25 d_Mo_along_19 (by decide) (fun c_19 => ?_) (fun c_19 => ?_)
        · skip
          have hk6 : i < nk := zbt_lt hq (by omega) hi6 c_19
          refine z_aload_n 2 d_Mo_along_25 rfl rfl ?_
          refine z_get zc_Mo 10 (by decide) qF_Mo_30 hM2.mo rfl d_Mo_along_26 ?_
          refine z_iload 1 d_Mo_along_29 rfl ?_
          refine z_iload 0 d_Mo_along_31 rfl ?_
          refine z_iconst (v := 1) d_Mo_along_33 (by decide) ?_
          refine z_iadd d_Mo_along_34 ?_
          refine z_iastN hM2.pt (show ct < 8 by omega) (by decide) d_Mo_along_35 ?_
          obtain ⟨V3, hM3, hK3, hF3⟩ := hM2.putP (upd (V2 8) ct (nI i + 1))
          refine z_aload_n 2 d_Mo_along_36 rfl rfl ?_
          refine z_get zc_Mo 11 (by decide) qF_Mo_33 hM3.mo rfl d_Mo_along_37 ?_
          refine z_iload 1 d_Mo_along_40 rfl ?_
          refine z_aload_n 2 d_Mo_along_42 rfl rfl ?_
          refine z_aload_n 3 d_Mo_along_43 rfl rfl ?_
          refine z_iload 0 d_Mo_along_44 rfl ?_
          refine z_callV0 (m_Mo_gives hs0 hst hM3 hsi hk6) ym_Mo_gives qM_Mo_80 qI_Mo_gives qV_Mo_Mo_gives zc_Mo hM3.mo d_Mo_along_46 rfl (Nat.le_of_ble_eq_true rfl) ⟨Nat.zero_le _, Nat.zero_le _⟩ ⟨Nat.le_of_ble_eq_true rfl, Nat.le_of_ble_eq_true rfl⟩ ?_
          refine z_iastN hM3.nb (show ct < 8 by omega) (by decide) d_Mo_along_49 ?_
          obtain ⟨V4, hM4, hK4, hF4⟩ := hM3.putN (upd (V3 9) ct (zr97 (V3 (300 + si) i + V3 (100 + i) 3)))
          refine z_iinc (v := nI (ct + 1)) (L' := [(4, _), (5, _), (0, _), (1, _), (2, _), (3, _)]) 1 d_Mo_along_50 rfl (nI_1 ct) (by decide) rfl ?_
          refine z_iinc (v := nI (i + 1)) (L' := [(5, _), (4, _), (0, _), (1, _), (2, _), (3, _)]) 1 d_Mo_along_53 rfl (nI_1 i) (by decide) rfl ?_
          refine z_goto 6 d_Mo_along_56 (by decide) ?_
          first
            | exact ih_6 (i + 1) _ _ (ct + 1) (by omega) (by omega) hM4 ((hK2.tr hK3).tr hK4) ((hF2.tr hF3).tr hF4) (by omega)
            | exact ih_6 (i + 1) _ _ ct (by omega) (by omega) hM2 hK2 hF2 (by omega)
        · skip
          refine z_goto 53 d_Mo_along_22 (by decide) ?_
          refine z_iinc (v := nI (i + 1)) (L' := [(5, _), (4, _), (0, _), (1, _), (2, _), (3, _)]) 0 d_Mo_along_53 rfl (nI_1 i) (by decide) rfl ?_
          refine z_goto 6 d_Mo_along_56 (by decide) ?_
          first
            | exact ih_6 (i + 1) _ _ (ct + 1) (by omega) (by omega) hM4 ((hK2.tr hK3).tr hK4) ((hF2.tr hF3).tr hF4) (by omega)
            | exact ih_6 (i + 1) _ _ ct (by omega) (by omega) hM2 hK2 hF2 (by omega)
  exact key_6 (8 + 1) 0 _ _ _ (by omega) (by omega) hM zKp.rf zFr.rf (Nat.zero_le _)
theorem d_Mo_agreeing_0 : decode c_Mo_agreeing 0 = .ok (.iconst 0, 1) := by decide +kernel
theorem d_Mo_agreeing_1 : decode c_Mo_agreeing 1 = .ok (.istore 4, 2) := by decide +kernel
theorem d_Mo_agreeing_3 : decode c_Mo_agreeing 3 = .ok (.iconst 0, 1) := by decide +kernel
theorem d_Mo_agreeing_4 : decode c_Mo_agreeing 4 = .ok (.istore 5, 2) := by decide +kernel
theorem d_Mo_agreeing_6 : decode c_Mo_agreeing 6 = .ok (.iload 5, 2) := by decide +kernel
theorem d_Mo_agreeing_8 : decode c_Mo_agreeing 8 = .ok (.bipush 8, 2) := by decide +kernel
theorem d_Mo_agreeing_10 : decode c_Mo_agreeing 10 = .ok (.if_icmp .ge 51, 3) := by decide +kernel
theorem d_Mo_agreeing_13 : decode c_Mo_agreeing 13 = .ok (.iload 4, 2) := by decide +kernel
theorem d_Mo_agreeing_15 : decode c_Mo_agreeing 15 = .ok (.iload_n 2, 1) := by decide +kernel
theorem d_Mo_agreeing_16 : decode c_Mo_agreeing 16 = .ok (.iload 5, 2) := by decide +kernel
theorem d_Mo_agreeing_18 : decode c_Mo_agreeing 18 = .ok (.invokestatic 76, 3) := by decide +kernel
theorem d_Mo_agreeing_21 : decode c_Mo_agreeing 21 = .ok (.ifCond .eq 30, 3) := by decide +kernel
theorem d_Mo_agreeing_24 : decode c_Mo_agreeing 24 = .ok (.aload_n 0, 1) := by decide +kernel
theorem d_Mo_agreeing_25 : decode c_Mo_agreeing 25 = .ok (.aload_n 1, 1) := by decide +kernel
theorem d_Mo_agreeing_26 : decode c_Mo_agreeing 26 = .ok (.iload_n 3, 1) := by decide +kernel
theorem d_Mo_agreeing_27 : decode c_Mo_agreeing 27 = .ok (.iload 5, 2) := by decide +kernel
theorem d_Mo_agreeing_29 : decode c_Mo_agreeing 29 = .ok (.iconst 1, 1) := by decide +kernel
theorem d_Mo_agreeing_30 : decode c_Mo_agreeing 30 = .ok (.iadd, 1) := by decide +kernel
theorem d_Mo_agreeing_31 : decode c_Mo_agreeing 31 = .ok (.invokevirtual 88, 3) := by decide +kernel
theorem d_Mo_agreeing_34 : decode c_Mo_agreeing 34 = .ok (.aload_n 0, 1) := by decide +kernel
theorem d_Mo_agreeing_35 : decode c_Mo_agreeing 35 = .ok (.aload_n 1, 1) := by decide +kernel
theorem d_Mo_agreeing_36 : decode c_Mo_agreeing 36 = .ok (.iload 5, 2) := by decide +kernel
theorem d_Mo_agreeing_38 : decode c_Mo_agreeing 38 = .ok (.invokevirtual 80, 3) := by decide +kernel
theorem d_Mo_agreeing_41 : decode c_Mo_agreeing 41 = .ok (.if_icmp .ne 10, 3) := by decide +kernel
theorem d_Mo_agreeing_44 : decode c_Mo_agreeing 44 = .ok (.iconst 1, 1) := by decide +kernel
theorem d_Mo_agreeing_45 : decode c_Mo_agreeing 45 = .ok (.iload 5, 2) := by decide +kernel
theorem d_Mo_agreeing_47 : decode c_Mo_agreeing 47 = .ok (.ishl, 1) := by decide +kernel
theorem d_Mo_agreeing_48 : decode c_Mo_agreeing 48 = .ok (.goto 4, 3) := by decide +kernel
theorem d_Mo_agreeing_51 : decode c_Mo_agreeing 51 = .ok (.iconst 0, 1) := by decide +kernel
theorem d_Mo_agreeing_52 : decode c_Mo_agreeing 52 = .ok (.ior, 1) := by decide +kernel
theorem d_Mo_agreeing_53 : decode c_Mo_agreeing 53 = .ok (.istore 4, 2) := by decide +kernel
theorem d_Mo_agreeing_55 : decode c_Mo_agreeing 55 = .ok (.iinc 5 1, 3) := by decide +kernel
theorem d_Mo_agreeing_58 : decode c_Mo_agreeing 58 = .ok (.goto (-52), 3) := by decide +kernel
theorem d_Mo_agreeing_61 : decode c_Mo_agreeing 61 = .ok (.iload 4, 2) := by decide +kernel
theorem d_Mo_agreeing_63 : decode c_Mo_agreeing 63 = .ok (.ireturn, 1) := by decide +kernel
set_option maxHeartbeats 4000000 in
set_option maxRecDepth 100000 in
theorem m_Mo_agreeing {g0 : State} {d : zD} {l : Launch} {a0 : Array Value} (hs0 : zS0 d a0 g0) (hst : l.stackTraces = false) {G : zG} {B : Nat → Nat} {V : Nat → Nat → Int32} {nk ns ne ec : Nat} (hM : zM d B V nk ns ne ec G) {si : Nat} (hsi : si < ns) {g : Nat} (hg : g < 2 ^ nk) {q : Nat} (hq : q < 2 ^ nk) : zMet g0 d l y_Mo_agreeing c_Mo_agreeing 6 ((Option.some Jvm.ClassFile.FieldType.int)) 13 0 0 [.ref (B 0), .ref (B (200 + si)), .int (nI g), .int (nI q)] (G) (mTs d B nk ns ne ec V G (zrQ 256)) (zNo) := by
  have hnk : nk ≤ 8 := hM.2.1
  have hns : ns ≤ 6 := hM.2.2.1
  have hne : ne ≤ 64 := hM.2.2.2.1
  have hp2 : 2 ^ nk ≤ 256 := Nat.pow_le_pow_right (n := 2) (by decide) hnk
  refine z_entry hs0 hst (by decide) (Nat.le_of_ble_eq_true rfl) (fun p e s m args below meth c => ?_)
  refine z_iconst (v := (nI 0)) d_Mo_agreeing_0 (by decide) ?_
  refine z_istore (L' := [(4, _), (0, _), (1, _), (2, _), (3, _)]) d_Mo_agreeing_1 (by decide) rfl ?_
  refine z_iconst (v := (nI 0)) d_Mo_agreeing_3 (by decide) ?_
  refine z_istore (L' := [(5, _), (4, _), (0, _), (1, _), (2, _), (3, _)]) d_Mo_agreeing_4 (by decide) rfl ?_
  have key_6 : ∀ (n : Nat) (i : Nat) (G2 : zG) (V2 : Nat → Nat → Int32) (v : Nat), 8 - i < n → (i ≤ 8) → (zM d B V2 nk ns ne ec G2) → (zKp msc V V2) → (mFr B nk ns ne G G2) → (v < 2 ^ i) → Z g0 d y_Mo_agreeing c_Mo_agreeing 6 ((Option.some Jvm.ClassFile.FieldType.int)) [] p l e (zR 13 0 0) s m args below meth c (vx_MQ below (zQc g0 d (mTs d B nk ns ne ec V G (zrQ 256))) (zXc g0 d (zNo)) args s 0 0 (zA g0)) 0 0 (G2) [(5, .int (nI i)), (4, .int (nI v)), (0, .ref (B 0)), (1, .ref (B (200 + si))), (2, .int (nI g)), (3, .int (nI q))] [] 6 := by
    intro n
    induction n with
    | zero => intro i G2 V2 v h0; exact absurd h0 (Nat.not_lt_zero _)
    | succ n ih_6 =>
      intro i G2 V2 v hm_6 hi hM2 hK2 hF2 hv
      refine z_iload 0 d_Mo_agreeing_6 rfl ?_
      refine z_bipush (v := 8) d_Mo_agreeing_8 (by decide) ?_
      refine z_icmp_ge 61 d_Mo_agreeing_10 (by decide) (fun c_10 => ?_) (fun c_10 => ?_)
      · skip
        obtain rfl : i = 8 := by
          have := (nI_leI (a := 8) (b := i) (by decide) (by omega)).mp c_10
          omega
        refine z_iload 1 d_Mo_agreeing_61 rfl ?_
        exact z_iret rfl (⟨⟨v, hv, rfl⟩, V2, hM2, hK2, hF2⟩) (by first | decide | omega) (by first | decide | omega) d_Mo_agreeing_63
      · skip
        have hi6 : i < 8 := Nat.lt_of_not_le fun q => c_10 (nI_le (a := 8) (b := i) q (by omega))
        refine z_iload 1 d_Mo_agreeing_13 rfl ?_
        refine z_iload_n 4 d_Mo_agreeing_15 rfl rfl ?_
        refine z_iload 0 d_Mo_agreeing_16 rfl ?_
        refine z_callS0 (m_Mo_has hs0 hst (nI g) (nI i)) ym_Mo_has qM_Mo_76 qS_Mo_has d_Mo_agreeing_18 rfl (Nat.le_of_ble_eq_true rfl) ⟨Nat.zero_le _, Nat.zero_le _⟩ ⟨Nat.le_of_ble_eq_true rfl, Nat.le_of_ble_eq_true rfl⟩ ?_
        refine z_if_eq 51 d_Mo_agreeing_21 (by decide) (fun c_21 => ?_) (fun c_21 => ?_)
        · skip
          refine z_iconst (v := 0) d_Mo_agreeing_51 (by decide) ?_
          refine z_ior d_Mo_agreeing_52 ?_
          first
            | refine z_topv (v := nI (v + 2 ^ i)) (zor_bit i (by omega) v hv) ?_
            | refine z_topv (v := nI v) (Int32.or_zero) ?_
          refine z_istore (L' := [(4, _), (5, _), (0, _), (1, _), (2, _), (3, _)]) d_Mo_agreeing_53 (by decide) rfl ?_
          refine z_iinc (v := nI (i + 1)) (L' := [(5, _), (4, _), (0, _), (1, _), (2, _), (3, _)]) 1 d_Mo_agreeing_55 rfl (nI_1 i) (by decide) rfl ?_
          refine z_goto 6 d_Mo_agreeing_58 (by decide) ?_
          have hv2 : v < 2 ^ (i + 1) ∧ v + 2 ^ i < 2 ^ (i + 1) := by rw [Nat.pow_succ]; omega
          first
            | exact ih_6 (i + 1) _ _ (v + 2 ^ i) (by omega) (by omega) hM3 (hK2.tr hK3) (hF2.tr hF3) hv2.2
            | exact ih_6 (i + 1) _ _ v (by omega) (by omega) hM3 (hK2.tr hK3) (hF2.tr hF3) hv2.1
            | exact ih_6 (i + 1) _ _ v (by omega) (by omega) hM2 hK2 hF2 hv2.1
        · skip
          have hk6 : i < nk := zbt_lt hg (by omega) hi6 c_21
          refine z_aload_n 2 d_Mo_agreeing_24 rfl rfl ?_
          refine z_aload_n 3 d_Mo_agreeing_25 rfl rfl ?_
          refine z_iload_n 5 d_Mo_agreeing_26 rfl rfl ?_
          refine z_iload 0 d_Mo_agreeing_27 rfl ?_
          refine z_iconst (v := 1) d_Mo_agreeing_29 (by decide) ?_
          refine z_iadd d_Mo_agreeing_30 ?_
          refine z_callVp0 (m_Mo_along hs0 hst hM2 hsi hq (nI i + 1)) ym_Mo_along qM_Mo_88 qI_Mo_along qV_Mo_Mo_along zc_Mo hM2.mo d_Mo_agreeing_31 rfl (Nat.le_of_ble_eq_true rfl) ⟨Nat.zero_le _, Nat.zero_le _⟩ ⟨Nat.le_of_ble_eq_true rfl, Nat.le_of_ble_eq_true rfl⟩ (fun r_31 G_31 hp_31 => ?_)
          obtain ⟨⟨v_31, rfl⟩, V3, hM3, hK3, hF3⟩ := hp_31
          refine z_aload_n 2 d_Mo_agreeing_34 rfl rfl ?_
          refine z_aload_n 3 d_Mo_agreeing_35 rfl rfl ?_
          refine z_iload 0 d_Mo_agreeing_36 rfl ?_
          refine z_callV0 (m_Mo_gives hs0 hst hM3 hsi hk6) ym_Mo_gives qM_Mo_80 qI_Mo_gives qV_Mo_Mo_gives zc_Mo hM3.mo d_Mo_agreeing_38 rfl (Nat.le_of_ble_eq_true rfl) ⟨Nat.zero_le _, Nat.zero_le _⟩ ⟨Nat.le_of_ble_eq_true rfl, Nat.le_of_ble_eq_true rfl⟩ ?_
          refine z_icmp_ne 51 d_Mo_agreeing_41 (by decide) (fun c_41 => ?_) (fun c_41 => ?_)
          · skip
            refine z_iconst (v := 0) d_Mo_agreeing_51 (by decide) ?_
            refine z_ior d_Mo_agreeing_52 ?_
            first
              | refine z_topv (v := nI (v + 2 ^ i)) (zor_bit i (by omega) v hv) ?_
              | refine z_topv (v := nI v) (Int32.or_zero) ?_
            refine z_istore (L' := [(4, _), (5, _), (0, _), (1, _), (2, _), (3, _)]) d_Mo_agreeing_53 (by decide) rfl ?_
            refine z_iinc (v := nI (i + 1)) (L' := [(5, _), (4, _), (0, _), (1, _), (2, _), (3, _)]) 1 d_Mo_agreeing_55 rfl (nI_1 i) (by decide) rfl ?_
            refine z_goto 6 d_Mo_agreeing_58 (by decide) ?_
            have hv2 : v < 2 ^ (i + 1) ∧ v + 2 ^ i < 2 ^ (i + 1) := by rw [Nat.pow_succ]; omega
            first
              | exact ih_6 (i + 1) _ _ (v + 2 ^ i) (by omega) (by omega) hM3 (hK2.tr hK3) (hF2.tr hF3) hv2.2
              | exact ih_6 (i + 1) _ _ v (by omega) (by omega) hM3 (hK2.tr hK3) (hF2.tr hF3) hv2.1
              | exact ih_6 (i + 1) _ _ v (by omega) (by omega) hM2 hK2 hF2 hv2.1
          · skip
            refine z_iconst (v := 1) d_Mo_agreeing_44 (by decide) ?_
            refine z_iload 0 d_Mo_agreeing_45 rfl ?_
            refine z_ishl d_Mo_agreeing_47 ?_
            refine z_goto 52 d_Mo_agreeing_48 (by decide) ?_
            refine z_ior d_Mo_agreeing_52 ?_
            first
              | refine z_topv (v := nI (v + 2 ^ i)) (zor_bit i (by omega) v hv) ?_
              | refine z_topv (v := nI v) (Int32.or_zero) ?_
            refine z_istore (L' := [(4, _), (5, _), (0, _), (1, _), (2, _), (3, _)]) d_Mo_agreeing_53 (by decide) rfl ?_
            refine z_iinc (v := nI (i + 1)) (L' := [(5, _), (4, _), (0, _), (1, _), (2, _), (3, _)]) 1 d_Mo_agreeing_55 rfl (nI_1 i) (by decide) rfl ?_
            refine z_goto 6 d_Mo_agreeing_58 (by decide) ?_
            have hv2 : v < 2 ^ (i + 1) ∧ v + 2 ^ i < 2 ^ (i + 1) := by rw [Nat.pow_succ]; omega
            first
              | exact ih_6 (i + 1) _ _ (v + 2 ^ i) (by omega) (by omega) hM3 (hK2.tr hK3) (hF2.tr hF3) hv2.2
              | exact ih_6 (i + 1) _ _ v (by omega) (by omega) hM3 (hK2.tr hK3) (hF2.tr hF3) hv2.1
              | exact ih_6 (i + 1) _ _ v (by omega) (by omega) hM2 hK2 hF2 hv2.1
  exact key_6 (8 + 1) 0 _ _ _ (by omega) (by omega) hM zKp.rf zFr.rf (by decide)
theorem d_Mo_best_0 : decode c_Mo_best 0 = .ok (.iconst 0, 1) := by decide +kernel
theorem d_Mo_best_1 : decode c_Mo_best 1 = .ok (.istore_n 3, 1) := by decide +kernel
theorem d_Mo_best_2 : decode c_Mo_best 2 = .ok (.iconst (-1), 1) := by decide +kernel
theorem d_Mo_best_3 : decode c_Mo_best 3 = .ok (.istore 4, 2) := by decide +kernel
theorem d_Mo_best_5 : decode c_Mo_best 5 = .ok (.iconst 1, 1) := by decide +kernel
theorem d_Mo_best_6 : decode c_Mo_best 6 = .ok (.istore 5, 2) := by decide +kernel
theorem d_Mo_best_8 : decode c_Mo_best 8 = .ok (.iload 5, 2) := by decide +kernel
theorem d_Mo_best_10 : decode c_Mo_best 10 = .ok (.iload_n 2, 1) := by decide +kernel
theorem d_Mo_best_11 : decode c_Mo_best 11 = .ok (.if_icmp .gt 60, 3) := by decide +kernel
theorem d_Mo_best_14 : decode c_Mo_best 14 = .ok (.iload 5, 2) := by decide +kernel
theorem d_Mo_best_16 : decode c_Mo_best 16 = .ok (.iload_n 2, 1) := by decide +kernel
theorem d_Mo_best_17 : decode c_Mo_best 17 = .ok (.iconst (-1), 1) := by decide +kernel
theorem d_Mo_best_18 : decode c_Mo_best 18 = .ok (.ixor, 1) := by decide +kernel
theorem d_Mo_best_19 : decode c_Mo_best 19 = .ok (.iand, 1) := by decide +kernel
theorem d_Mo_best_20 : decode c_Mo_best 20 = .ok (.ifCond .ne 45, 3) := by decide +kernel
theorem d_Mo_best_23 : decode c_Mo_best 23 = .ok (.iload 5, 2) := by decide +kernel
theorem d_Mo_best_25 : decode c_Mo_best 25 = .ok (.invokestatic 66, 3) := by decide +kernel
theorem d_Mo_best_28 : decode c_Mo_best 28 = .ok (.aload_n 1, 1) := by decide +kernel
theorem d_Mo_best_29 : decode c_Mo_best 29 = .ok (.getfield 69, 3) := by decide +kernel
theorem d_Mo_best_32 : decode c_Mo_best 32 = .ok (.if_icmp .eq 6, 3) := by decide +kernel
theorem d_Mo_best_35 : decode c_Mo_best 35 = .ok (.goto 30, 3) := by decide +kernel
theorem d_Mo_best_38 : decode c_Mo_best 38 = .ok (.aload_n 0, 1) := by decide +kernel
theorem d_Mo_best_39 : decode c_Mo_best 39 = .ok (.aload_n 1, 1) := by decide +kernel
theorem d_Mo_best_40 : decode c_Mo_best 40 = .ok (.iload_n 2, 1) := by decide +kernel
theorem d_Mo_best_41 : decode c_Mo_best 41 = .ok (.iload 5, 2) := by decide +kernel
theorem d_Mo_best_43 : decode c_Mo_best 43 = .ok (.invokevirtual 72, 3) := by decide +kernel
theorem d_Mo_best_46 : decode c_Mo_best 46 = .ok (.invokestatic 66, 3) := by decide +kernel
theorem d_Mo_best_49 : decode c_Mo_best 49 = .ok (.istore 6, 2) := by decide +kernel
theorem d_Mo_best_51 : decode c_Mo_best 51 = .ok (.iload 6, 2) := by decide +kernel
theorem d_Mo_best_53 : decode c_Mo_best 53 = .ok (.iload 4, 2) := by decide +kernel
theorem d_Mo_best_55 : decode c_Mo_best 55 = .ok (.if_icmp .le 10, 3) := by decide +kernel
theorem d_Mo_best_58 : decode c_Mo_best 58 = .ok (.iload 6, 2) := by decide +kernel
theorem d_Mo_best_60 : decode c_Mo_best 60 = .ok (.istore 4, 2) := by decide +kernel
theorem d_Mo_best_62 : decode c_Mo_best 62 = .ok (.iload 5, 2) := by decide +kernel
theorem d_Mo_best_64 : decode c_Mo_best 64 = .ok (.istore_n 3, 1) := by decide +kernel
theorem d_Mo_best_65 : decode c_Mo_best 65 = .ok (.iinc 5 1, 3) := by decide +kernel
theorem d_Mo_best_68 : decode c_Mo_best 68 = .ok (.goto (-60), 3) := by decide +kernel
theorem d_Mo_best_71 : decode c_Mo_best 71 = .ok (.iload_n 3, 1) := by decide +kernel
theorem d_Mo_best_72 : decode c_Mo_best 72 = .ok (.ireturn, 1) := by decide +kernel
set_option maxHeartbeats 4000000 in
set_option maxRecDepth 100000 in
theorem m_Mo_best {g0 : State} {d : zD} {l : Launch} {a0 : Array Value} (hs0 : zS0 d a0 g0) (hst : l.stackTraces = false) {G : zG} {B : Nat → Nat} {V : Nat → Nat → Int32} {nk ns ne ec : Nat} (hM : zM d B V nk ns ne ec G) {si : Nat} (hsi : si < ns) {g : Nat} (hg : g < 2 ^ nk) : zMet g0 d l y_Mo_best c_Mo_best 7 ((Option.some Jvm.ClassFile.FieldType.int)) 14 0 0 [.ref (B 0), .ref (B (200 + si)), .int (nI g)] (G) (mTs d B nk ns ne ec V G (zrQ (2 ^ nk))) (zNo) := by
  have hnk : nk ≤ 8 := hM.2.1
  have hns : ns ≤ 6 := hM.2.2.1
  have hne : ne ≤ 64 := hM.2.2.2.1
  have hp2 : 2 ^ nk ≤ 256 := Nat.pow_le_pow_right (n := 2) (by decide) hnk
  refine z_entry hs0 hst (by decide) (Nat.le_of_ble_eq_true rfl) (fun p e s m args below meth c => ?_)
  refine z_iconst (v := (nI 0)) d_Mo_best_0 (by decide) ?_
  refine z_istore_n (L' := [(3, _), (0, _), (1, _), (2, _)]) d_Mo_best_1 rfl (by decide) rfl ?_
  refine z_iconst (v := (-1)) d_Mo_best_2 (by decide) ?_
  refine z_istore (L' := [(4, _), (3, _), (0, _), (1, _), (2, _)]) d_Mo_best_3 (by decide) rfl ?_
  refine z_iconst (v := (nI 1)) d_Mo_best_5 (by decide) ?_
  refine z_istore (L' := [(5, _), (4, _), (3, _), (0, _), (1, _), (2, _)]) d_Mo_best_6 (by decide) rfl ?_
  have key_8 : ∀ (n : Nat) (i : Nat) (G2 : zG) (V2 : Nat → Nat → Int32) (b : Nat) (w : Int32), g + 1 - i < n → (i ≤ g + 1) → (zM d B V2 nk ns ne ec G2) → (zKp msc V V2) → (mFr B nk ns ne G G2) → (b < 2 ^ nk) → Z g0 d y_Mo_best c_Mo_best 7 ((Option.some Jvm.ClassFile.FieldType.int)) [] p l e (zR 14 0 0) s m args below meth c (vx_MQ below (zQc g0 d (mTs d B nk ns ne ec V G (zrQ (2 ^ nk)))) (zXc g0 d (zNo)) args s 0 0 (zA g0)) 0 0 (G2) [(5, .int (nI i)), (4, .int w), (3, .int (nI b)), (0, .ref (B 0)), (1, .ref (B (200 + si))), (2, .int (nI g))] [] 8 := by
    intro n
    induction n with
    | zero => intro i G2 V2 b w h0; exact absurd h0 (Nat.not_lt_zero _)
    | succ n ih_8 =>
      intro i G2 V2 b w hm_8 hi hM2 hK2 hF2 hb
      refine z_iload 0 d_Mo_best_8 rfl ?_
      refine z_iload_n 5 d_Mo_best_10 rfl rfl ?_
      refine z_icmp_gt 71 d_Mo_best_11 (by decide) (fun c_11 => ?_) (fun c_11 => ?_)
      · skip
        refine z_iload_n 2 d_Mo_best_71 rfl rfl ?_
        exact z_iret rfl (⟨⟨b, hb, rfl⟩, V2, hM2, hK2, hF2⟩) (by first | decide | omega) (by first | decide | omega) d_Mo_best_72
      · skip
        have hi6 : i ≤ g := Nat.le_of_not_lt fun q => c_11 ((nI_ltI (by omega) (by omega)).mpr q)
        refine z_iload 0 d_Mo_best_14 rfl ?_
        refine z_iload_n 5 d_Mo_best_16 rfl rfl ?_
        refine z_iconst (v := (-1)) d_Mo_best_17 (by decide) ?_
        refine z_ixor d_Mo_best_18 ?_
        refine z_iand d_Mo_best_19 ?_
        refine z_if_ne 65 d_Mo_best_20 (by decide) (fun c_20 => ?_) (fun c_20 => ?_)
        · skip
          refine z_iinc (v := nI (i + 1)) (L' := [(5, _), (4, _), (3, _), (0, _), (1, _), (2, _)]) 0 d_Mo_best_65 rfl (nI_1 i) (by decide) rfl ?_
          refine z_goto 8 d_Mo_best_68 (by decide) ?_
          first
            | exact ih_8 (i + 1) _ _ _ _ (by omega) (by omega) hM3 (hK2.tr hK3) (hF2.tr hF3) (by omega)
            | exact ih_8 (i + 1) _ _ _ _ (by omega) (by omega) hM2 hK2 hF2 (by omega)
        · skip
          refine z_iload 0 d_Mo_best_23 rfl ?_
          refine z_callS0 ((m_Mo_size hs0 hst (nn := i) (by omega))) ym_Mo_size qM_Mo_66 qS_Mo_size d_Mo_best_25 rfl (Nat.le_of_ble_eq_true rfl) ⟨Nat.zero_le _, Nat.zero_le _⟩ ⟨Nat.le_of_ble_eq_true rfl, Nat.le_of_ble_eq_true rfl⟩ ?_
          refine z_aload_n 4 d_Mo_best_28 rfl rfl ?_
          refine z_get zc_MS 0 (by decide) qF_Mo_69 (hM2.se hsi).1 rfl d_Mo_best_29 ?_
          refine z_icmp_eq 38 d_Mo_best_32 (by decide) (fun c_32 => ?_) (fun c_32 => ?_)
          · skip
            refine z_aload_n 3 d_Mo_best_38 rfl rfl ?_
            refine z_aload_n 4 d_Mo_best_39 rfl rfl ?_
            refine z_iload_n 5 d_Mo_best_40 rfl rfl ?_
            refine z_iload 0 d_Mo_best_41 rfl ?_
            refine z_callVp0 (m_Mo_agreeing hs0 hst hM2 hsi hg (show i < 2 ^ nk by omega)) ym_Mo_agreeing qM_Mo_72 qI_Mo_agreeing qV_Mo_Mo_agreeing zc_Mo hM2.mo d_Mo_best_43 rfl (Nat.le_of_ble_eq_true rfl) ⟨Nat.zero_le _, Nat.zero_le _⟩ ⟨Nat.le_of_ble_eq_true rfl, Nat.le_of_ble_eq_true rfl⟩ (fun r_43 G_43 hp_43 => ?_)
            obtain ⟨⟨q3, hq3, rfl⟩, V3, hM3, hK3, hF3⟩ := hp_43
            refine z_callS0 ((m_Mo_size hs0 hst (nn := q3) (by omega))) ym_Mo_size qM_Mo_66 qS_Mo_size d_Mo_best_46 rfl (Nat.le_of_ble_eq_true rfl) ⟨Nat.zero_le _, Nat.zero_le _⟩ ⟨Nat.le_of_ble_eq_true rfl, Nat.le_of_ble_eq_true rfl⟩ ?_
            refine z_istore (L' := [(6, _), (5, _), (4, _), (3, _), (0, _), (1, _), (2, _)]) d_Mo_best_49 (by decide) rfl ?_
            refine z_iload 0 d_Mo_best_51 rfl ?_
            refine z_iload 2 d_Mo_best_53 rfl ?_
            refine z_icmp_le 65 d_Mo_best_55 (by decide) (fun c_55 => ?_) (fun c_55 => ?_)
            · skip
              refine z_iinc (v := nI (i + 1)) (L' := [(5, _), (6, _), (4, _), (3, _), (0, _), (1, _), (2, _)]) 1 d_Mo_best_65 rfl (nI_1 i) (by decide) rfl ?_
              refine z_goto 8 d_Mo_best_68 (by decide) ?_
              refine z_sub (L' := [(5, _), (4, _), (3, _), (0, _), (1, _), (2, _)]) [0, 2, 3, 4, 5, 6] rfl ?_
              first
                | exact ih_8 (i + 1) _ _ _ _ (by omega) (by omega) hM3 (hK2.tr hK3) (hF2.tr hF3) (by omega)
                | exact ih_8 (i + 1) _ _ _ _ (by omega) (by omega) hM2 hK2 hF2 (by omega)
            · skip
              refine z_iload 0 d_Mo_best_58 rfl ?_
              refine z_istore (L' := [(4, _), (6, _), (5, _), (3, _), (0, _), (1, _), (2, _)]) d_Mo_best_60 (by decide) rfl ?_
              refine z_iload 2 d_Mo_best_62 rfl ?_
              refine z_istore_n (L' := [(3, _), (4, _), (6, _), (5, _), (0, _), (1, _), (2, _)]) d_Mo_best_64 rfl (by decide) rfl ?_
              refine z_iinc (v := nI (i + 1)) (L' := [(5, _), (3, _), (4, _), (6, _), (0, _), (1, _), (2, _)]) 3 d_Mo_best_65 rfl (nI_1 i) (by decide) rfl ?_
              refine z_goto 8 d_Mo_best_68 (by decide) ?_
              refine z_sub (L' := [(5, _), (4, _), (3, _), (0, _), (1, _), (2, _)]) [0, 2, 1, 4, 5, 6] rfl ?_
              first
                | exact ih_8 (i + 1) _ _ _ _ (by omega) (by omega) hM3 (hK2.tr hK3) (hF2.tr hF3) (by omega)
                | exact ih_8 (i + 1) _ _ _ _ (by omega) (by omega) hM2 hK2 hF2 (by omega)
          · skip
            refine z_goto 65 d_Mo_best_35 (by decide) ?_
            refine z_iinc (v := nI (i + 1)) (L' := [(5, _), (4, _), (3, _), (0, _), (1, _), (2, _)]) 0 d_Mo_best_65 rfl (nI_1 i) (by decide) rfl ?_
            refine z_goto 8 d_Mo_best_68 (by decide) ?_
            first
              | exact ih_8 (i + 1) _ _ _ _ (by omega) (by omega) hM3 (hK2.tr hK3) (hF2.tr hF3) (by omega)
              | exact ih_8 (i + 1) _ _ _ _ (by omega) (by omega) hM2 hK2 hF2 (by omega)
  exact key_8 (g + 2) 1 _ _ 0 _ (by omega) (by omega) hM zKp.rf zFr.rf (Nat.pow_pos (by decide))
theorem d_Mo_isGood_0 : decode c_Mo_isGood 0 = .ok (.iload_n 2, 1) := by decide +kernel
theorem d_Mo_isGood_1 : decode c_Mo_isGood 1 = .ok (.invokestatic 66, 3) := by decide +kernel
theorem d_Mo_isGood_4 : decode c_Mo_isGood 4 = .ok (.istore_n 3, 1) := by decide +kernel
theorem d_Mo_isGood_5 : decode c_Mo_isGood 5 = .ok (.iload_n 3, 1) := by decide +kernel
theorem d_Mo_isGood_6 : decode c_Mo_isGood 6 = .ok (.aload_n 1, 1) := by decide +kernel
theorem d_Mo_isGood_7 : decode c_Mo_isGood 7 = .ok (.getfield 69, 3) := by decide +kernel
theorem d_Mo_isGood_10 : decode c_Mo_isGood 10 = .ok (.if_icmp .ge 5, 3) := by decide +kernel
theorem d_Mo_isGood_13 : decode c_Mo_isGood 13 = .ok (.iconst 0, 1) := by decide +kernel
theorem d_Mo_isGood_14 : decode c_Mo_isGood 14 = .ok (.ireturn, 1) := by decide +kernel
theorem d_Mo_isGood_15 : decode c_Mo_isGood 15 = .ok (.iload_n 3, 1) := by decide +kernel
theorem d_Mo_isGood_16 : decode c_Mo_isGood 16 = .ok (.aload_n 0, 1) := by decide +kernel
theorem d_Mo_isGood_17 : decode c_Mo_isGood 17 = .ok (.aload_n 1, 1) := by decide +kernel
theorem d_Mo_isGood_18 : decode c_Mo_isGood 18 = .ok (.iload_n 2, 1) := by decide +kernel
theorem d_Mo_isGood_19 : decode c_Mo_isGood 19 = .ok (.aload_n 0, 1) := by decide +kernel
theorem d_Mo_isGood_20 : decode c_Mo_isGood 20 = .ok (.aload_n 1, 1) := by decide +kernel
theorem d_Mo_isGood_21 : decode c_Mo_isGood 21 = .ok (.iload_n 2, 1) := by decide +kernel
theorem d_Mo_isGood_22 : decode c_Mo_isGood 22 = .ok (.invokevirtual 91, 3) := by decide +kernel
theorem d_Mo_isGood_25 : decode c_Mo_isGood 25 = .ok (.invokevirtual 72, 3) := by decide +kernel
theorem d_Mo_isGood_28 : decode c_Mo_isGood 28 = .ok (.invokestatic 66, 3) := by decide +kernel
theorem d_Mo_isGood_31 : decode c_Mo_isGood 31 = .ok (.isub, 1) := by decide +kernel
theorem d_Mo_isGood_32 : decode c_Mo_isGood 32 = .ok (.iload_n 3, 1) := by decide +kernel
theorem d_Mo_isGood_33 : decode c_Mo_isGood 33 = .ok (.aload_n 1, 1) := by decide +kernel
theorem d_Mo_isGood_34 : decode c_Mo_isGood 34 = .ok (.getfield 69, 3) := by decide +kernel
theorem d_Mo_isGood_37 : decode c_Mo_isGood 37 = .ok (.isub, 1) := by decide +kernel
theorem d_Mo_isGood_38 : decode c_Mo_isGood 38 = .ok (.iconst 2, 1) := by decide +kernel
theorem d_Mo_isGood_39 : decode c_Mo_isGood 39 = .ok (.idiv, 1) := by decide +kernel
theorem d_Mo_isGood_40 : decode c_Mo_isGood 40 = .ok (.if_icmp .gt 7, 3) := by decide +kernel
theorem d_Mo_isGood_43 : decode c_Mo_isGood 43 = .ok (.iconst 1, 1) := by decide +kernel
theorem d_Mo_isGood_44 : decode c_Mo_isGood 44 = .ok (.goto 4, 3) := by decide +kernel
theorem d_Mo_isGood_47 : decode c_Mo_isGood 47 = .ok (.iconst 0, 1) := by decide +kernel
theorem d_Mo_isGood_48 : decode c_Mo_isGood 48 = .ok (.ireturn, 1) := by decide +kernel
set_option maxHeartbeats 4000000 in
set_option maxRecDepth 100000 in
theorem m_Mo_isGood {g0 : State} {d : zD} {l : Launch} {a0 : Array Value} (hs0 : zS0 d a0 g0) (hst : l.stackTraces = false) {G : zG} {B : Nat → Nat} {V : Nat → Nat → Int32} {nk ns ne ec : Nat} (hM : zM d B V nk ns ne ec G) {si : Nat} (hsi : si < ns) {g : Nat} (hg : g < 2 ^ nk) : zMet g0 d l y_Mo_isGood c_Mo_isGood 4 ((Option.some Jvm.ClassFile.FieldType.boolean)) 15 0 0 [.ref (B 0), .ref (B (200 + si)), .int (nI g)] (G) (mTs d B nk ns ne ec V G zrB) (zNo) := by
  have hnk : nk ≤ 8 := hM.2.1
  have hns : ns ≤ 6 := hM.2.2.1
  have hne : ne ≤ 64 := hM.2.2.2.1
  have hp2 : 2 ^ nk ≤ 256 := Nat.pow_le_pow_right (n := 2) (by decide) hnk
  refine z_entry hs0 hst (by decide) (Nat.le_of_ble_eq_true rfl) (fun p e s m args below meth c => ?_)
  refine z_iload_n 2 d_Mo_isGood_0 rfl rfl ?_
  refine z_callS0 ((m_Mo_size hs0 hst (nn := g) (by omega))) ym_Mo_size qM_Mo_66 qS_Mo_size d_Mo_isGood_1 rfl (Nat.le_of_ble_eq_true rfl) ⟨Nat.zero_le _, Nat.zero_le _⟩ ⟨Nat.le_of_ble_eq_true rfl, Nat.le_of_ble_eq_true rfl⟩ ?_
  refine z_istore_n (L' := [(3, _), (0, _), (1, _), (2, _)]) d_Mo_isGood_4 rfl (by decide) rfl ?_
  refine z_iload_n 0 d_Mo_isGood_5 rfl rfl ?_
  refine z_aload_n 2 d_Mo_isGood_6 rfl rfl ?_
  refine z_get zc_MS 0 (by decide) qF_Mo_69 (hM.se hsi).1 rfl d_Mo_isGood_7 ?_
  refine z_icmp_ge 15 d_Mo_isGood_10 (by decide) (fun c_10 => ?_) (fun c_10 => ?_)
  · skip
    refine z_iload_n 0 d_Mo_isGood_15 rfl rfl ?_
    refine z_aload_n 1 d_Mo_isGood_16 rfl rfl ?_
    refine z_aload_n 2 d_Mo_isGood_17 rfl rfl ?_
    refine z_iload_n 3 d_Mo_isGood_18 rfl rfl ?_
    refine z_aload_n 1 d_Mo_isGood_19 rfl rfl ?_
    refine z_aload_n 2 d_Mo_isGood_20 rfl rfl ?_
    refine z_iload_n 3 d_Mo_isGood_21 rfl rfl ?_
    refine z_callVp0 (m_Mo_best hs0 hst hM hsi hg) ym_Mo_best qM_Mo_91 qI_Mo_best qV_Mo_Mo_best zc_Mo hM.mo d_Mo_isGood_22 rfl (Nat.le_of_ble_eq_true rfl) ⟨Nat.zero_le _, Nat.zero_le _⟩ ⟨Nat.le_of_ble_eq_true rfl, Nat.le_of_ble_eq_true rfl⟩ (fun r_22 G_22 hp_22 => ?_)
    obtain ⟨⟨b1, hb1, rfl⟩, V1, hM1, hK1, hF1⟩ := hp_22
    refine z_callVp0 (m_Mo_agreeing hs0 hst hM1 hsi hg hb1) ym_Mo_agreeing qM_Mo_72 qI_Mo_agreeing qV_Mo_Mo_agreeing zc_Mo hM1.mo d_Mo_isGood_25 rfl (Nat.le_of_ble_eq_true rfl) ⟨Nat.zero_le _, Nat.zero_le _⟩ ⟨Nat.le_of_ble_eq_true rfl, Nat.le_of_ble_eq_true rfl⟩ (fun r_25 G_25 hp_25 => ?_)
    obtain ⟨⟨q2, hq2, rfl⟩, V2, hM2, hK2, hF2⟩ := hp_25
    refine z_callS0 ((m_Mo_size hs0 hst (nn := q2) (by omega))) ym_Mo_size qM_Mo_66 qS_Mo_size d_Mo_isGood_28 rfl (Nat.le_of_ble_eq_true rfl) ⟨Nat.zero_le _, Nat.zero_le _⟩ ⟨Nat.le_of_ble_eq_true rfl, Nat.le_of_ble_eq_true rfl⟩ ?_
    refine z_isub d_Mo_isGood_31 ?_
    refine z_iload_n 0 d_Mo_isGood_32 rfl rfl ?_
    refine z_aload_n 2 d_Mo_isGood_33 rfl rfl ?_
    refine z_get zc_MS 0 (by decide) qF_Mo_69 (hM2.se hsi).1 rfl d_Mo_isGood_34 ?_
    refine z_isub d_Mo_isGood_37 ?_
    refine z_iconst (v := 2) d_Mo_isGood_38 (by decide) ?_
    refine z_idiv d_Mo_isGood_39 (by decide) ?_
    refine z_icmp_gt 47 d_Mo_isGood_40 (by decide) (fun c_40 => ?_) (fun c_40 => ?_)
    · skip
      refine z_iconst (v := 0) d_Mo_isGood_47 (by decide) ?_
      exact z_zret rfl (by first | rfl | exact zb_nar _) (by first | exact ⟨⟨true, rfl⟩, V2, hM2, hK1.tr hK2, hF1.tr hF2⟩ | exact ⟨⟨false, rfl⟩, V2, hM2, hK1.tr hK2, hF1.tr hF2⟩) (by first | decide | omega) (by first | decide | omega) d_Mo_isGood_48
    · skip
      refine z_iconst (v := 1) d_Mo_isGood_43 (by decide) ?_
      refine z_goto 48 d_Mo_isGood_44 (by decide) ?_
      exact z_zret rfl (by first | rfl | exact zb_nar _) (by first | exact ⟨⟨true, rfl⟩, V2, hM2, hK1.tr hK2, hF1.tr hF2⟩ | exact ⟨⟨false, rfl⟩, V2, hM2, hK1.tr hK2, hF1.tr hF2⟩) (by first | decide | omega) (by first | decide | omega) d_Mo_isGood_48
  · skip
    refine z_iconst (v := 0) d_Mo_isGood_13 (by decide) ?_
    exact z_zret rfl (by first | rfl | exact zb_nar _) (⟨⟨false, rfl⟩, V, hM, zKp.rf, zFr.rf⟩) (by first | decide | omega) (by first | decide | omega) d_Mo_isGood_14
theorem d_Mo_found_0 : decode c_Mo_found 0 = .ok (.aload_n 0, 1) := by decide +kernel
theorem d_Mo_found_1 : decode c_Mo_found 1 = .ok (.aload_n 1, 1) := by decide +kernel
theorem d_Mo_found_2 : decode c_Mo_found 2 = .ok (.aload_n 0, 1) := by decide +kernel
theorem d_Mo_found_3 : decode c_Mo_found 3 = .ok (.aload_n 1, 1) := by decide +kernel
theorem d_Mo_found_4 : decode c_Mo_found 4 = .ok (.iload_n 2, 1) := by decide +kernel
theorem d_Mo_found_5 : decode c_Mo_found 5 = .ok (.invokevirtual 91, 3) := by decide +kernel
theorem d_Mo_found_8 : decode c_Mo_found 8 = .ok (.iconst 0, 1) := by decide +kernel
theorem d_Mo_found_9 : decode c_Mo_found 9 = .ok (.invokevirtual 88, 3) := by decide +kernel
theorem d_Mo_found_12 : decode c_Mo_found 12 = .ok (.ireturn, 1) := by decide +kernel
set_option maxHeartbeats 4000000 in
set_option maxRecDepth 100000 in
theorem m_Mo_found {g0 : State} {d : zD} {l : Launch} {a0 : Array Value} (hs0 : zS0 d a0 g0) (hst : l.stackTraces = false) {G : zG} {B : Nat → Nat} {V : Nat → Nat → Int32} {nk ns ne ec : Nat} (hM : zM d B V nk ns ne ec G) {si : Nat} (hsi : si < ns) {g : Nat} (hg : g < 2 ^ nk) : zMet g0 d l y_Mo_found c_Mo_found 3 ((Option.some Jvm.ClassFile.FieldType.int)) 15 0 0 [.ref (B 0), .ref (B (200 + si)), .int (nI g)] (G) (mTs d B nk ns ne ec V G zrI) (zNo) := by
  have hnk : nk ≤ 8 := hM.2.1
  have hns : ns ≤ 6 := hM.2.2.1
  have hne : ne ≤ 64 := hM.2.2.2.1
  have hp2 : 2 ^ nk ≤ 256 := Nat.pow_le_pow_right (n := 2) (by decide) hnk
  refine z_entry hs0 hst (by decide) (Nat.le_of_ble_eq_true rfl) (fun p e s m args below meth c => ?_)
  refine z_aload_n 0 d_Mo_found_0 rfl rfl ?_
  refine z_aload_n 1 d_Mo_found_1 rfl rfl ?_
  refine z_aload_n 0 d_Mo_found_2 rfl rfl ?_
  refine z_aload_n 1 d_Mo_found_3 rfl rfl ?_
  refine z_iload_n 2 d_Mo_found_4 rfl rfl ?_
  refine z_callVp0 (m_Mo_best hs0 hst hM hsi hg) ym_Mo_best qM_Mo_91 qI_Mo_best qV_Mo_Mo_best zc_Mo hM.mo d_Mo_found_5 rfl (Nat.le_of_ble_eq_true rfl) ⟨Nat.zero_le _, Nat.zero_le _⟩ ⟨Nat.le_of_ble_eq_true rfl, Nat.le_of_ble_eq_true rfl⟩ (fun r_5 G_5 hp_5 => ?_)
  obtain ⟨⟨b1, hb1, rfl⟩, V1, hM1, hK1, hF1⟩ := hp_5
  refine z_iconst (v := 0) d_Mo_found_8 (by decide) ?_
  refine z_callVp0 (m_Mo_along hs0 hst hM1 hsi hb1 _) ym_Mo_along qM_Mo_88 qI_Mo_along qV_Mo_Mo_along zc_Mo hM1.mo d_Mo_found_9 rfl (Nat.le_of_ble_eq_true rfl) ⟨Nat.zero_le _, Nat.zero_le _⟩ ⟨Nat.le_of_ble_eq_true rfl, Nat.le_of_ble_eq_true rfl⟩ (fun r_9 G_9 hp_9 => ?_)
  obtain ⟨⟨v_9, rfl⟩, V2, hM2, hK2, hF2⟩ := hp_9
  exact z_iret rfl (⟨⟨_, rfl⟩, V2, hM2, hK1.tr hK2, hF1.tr hF2⟩) (by first | decide | omega) (by first | decide | omega) d_Mo_found_12
theorem d_Mo_liars_0 : decode c_Mo_liars 0 = .ok (.iload_n 2, 1) := by decide +kernel
theorem d_Mo_liars_1 : decode c_Mo_liars 1 = .ok (.aload_n 0, 1) := by decide +kernel
theorem d_Mo_liars_2 : decode c_Mo_liars 2 = .ok (.aload_n 1, 1) := by decide +kernel
theorem d_Mo_liars_3 : decode c_Mo_liars 3 = .ok (.iload_n 2, 1) := by decide +kernel
theorem d_Mo_liars_4 : decode c_Mo_liars 4 = .ok (.aload_n 0, 1) := by decide +kernel
theorem d_Mo_liars_5 : decode c_Mo_liars 5 = .ok (.aload_n 1, 1) := by decide +kernel
theorem d_Mo_liars_6 : decode c_Mo_liars 6 = .ok (.iload_n 2, 1) := by decide +kernel
theorem d_Mo_liars_7 : decode c_Mo_liars 7 = .ok (.invokevirtual 91, 3) := by decide +kernel
theorem d_Mo_liars_10 : decode c_Mo_liars 10 = .ok (.invokevirtual 72, 3) := by decide +kernel
theorem d_Mo_liars_13 : decode c_Mo_liars 13 = .ok (.iconst (-1), 1) := by decide +kernel
theorem d_Mo_liars_14 : decode c_Mo_liars 14 = .ok (.ixor, 1) := by decide +kernel
theorem d_Mo_liars_15 : decode c_Mo_liars 15 = .ok (.iand, 1) := by decide +kernel
theorem d_Mo_liars_16 : decode c_Mo_liars 16 = .ok (.ireturn, 1) := by decide +kernel
set_option maxHeartbeats 4000000 in
set_option maxRecDepth 100000 in
theorem m_Mo_liars {g0 : State} {d : zD} {l : Launch} {a0 : Array Value} (hs0 : zS0 d a0 g0) (hst : l.stackTraces = false) {G : zG} {B : Nat → Nat} {V : Nat → Nat → Int32} {nk ns ne ec : Nat} (hM : zM d B V nk ns ne ec G) {si : Nat} (hsi : si < ns) {g : Nat} (hg : g < 2 ^ nk) : zMet g0 d l y_Mo_liars c_Mo_liars 3 ((Option.some Jvm.ClassFile.FieldType.int)) 15 0 0 [.ref (B 0), .ref (B (200 + si)), .int (nI g)] (G) (mTs d B nk ns ne ec V G zrI) (zNo) := by
  have hnk : nk ≤ 8 := hM.2.1
  have hns : ns ≤ 6 := hM.2.2.1
  have hne : ne ≤ 64 := hM.2.2.2.1
  have hp2 : 2 ^ nk ≤ 256 := Nat.pow_le_pow_right (n := 2) (by decide) hnk
  refine z_entry hs0 hst (by decide) (Nat.le_of_ble_eq_true rfl) (fun p e s m args below meth c => ?_)
  refine z_iload_n 2 d_Mo_liars_0 rfl rfl ?_
  refine z_aload_n 0 d_Mo_liars_1 rfl rfl ?_
  refine z_aload_n 1 d_Mo_liars_2 rfl rfl ?_
  refine z_iload_n 2 d_Mo_liars_3 rfl rfl ?_
  refine z_aload_n 0 d_Mo_liars_4 rfl rfl ?_
  refine z_aload_n 1 d_Mo_liars_5 rfl rfl ?_
  refine z_iload_n 2 d_Mo_liars_6 rfl rfl ?_
  refine z_callVp0 (m_Mo_best hs0 hst hM hsi hg) ym_Mo_best qM_Mo_91 qI_Mo_best qV_Mo_Mo_best zc_Mo hM.mo d_Mo_liars_7 rfl (Nat.le_of_ble_eq_true rfl) ⟨Nat.zero_le _, Nat.zero_le _⟩ ⟨Nat.le_of_ble_eq_true rfl, Nat.le_of_ble_eq_true rfl⟩ (fun r_7 G_7 hp_7 => ?_)
  obtain ⟨⟨b1, hb1, rfl⟩, V1, hM1, hK1, hF1⟩ := hp_7
  refine z_callVp0 (m_Mo_agreeing hs0 hst hM1 hsi hg hb1) ym_Mo_agreeing qM_Mo_72 qI_Mo_agreeing qV_Mo_Mo_agreeing zc_Mo hM1.mo d_Mo_liars_10 rfl (Nat.le_of_ble_eq_true rfl) ⟨Nat.zero_le _, Nat.zero_le _⟩ ⟨Nat.le_of_ble_eq_true rfl, Nat.le_of_ble_eq_true rfl⟩ (fun r_10 G_10 hp_10 => ?_)
  obtain ⟨⟨q2, hq2, rfl⟩, V2, hM2, hK2, hF2⟩ := hp_10
  refine z_iconst (v := (-1)) d_Mo_liars_13 (by decide) ?_
  refine z_ixor d_Mo_liars_14 ?_
  refine z_iand d_Mo_liars_15 ?_
  exact z_iret rfl (⟨⟨_, rfl⟩, V2, hM2, hK1.tr hK2, hF1.tr hF2⟩) (by first | decide | omega) (by first | decide | omega) d_Mo_liars_16
theorem d_Mo_isLawful_0 : decode c_Mo_isLawful 0 = .ok (.iconst 0, 1) := by decide +kernel
theorem d_Mo_isLawful_1 : decode c_Mo_isLawful 1 = .ok (.istore_n 3, 1) := by decide +kernel
theorem d_Mo_isLawful_2 : decode c_Mo_isLawful 2 = .ok (.iconst 0, 1) := by decide +kernel
theorem d_Mo_isLawful_3 : decode c_Mo_isLawful 3 = .ok (.istore 4, 2) := by decide +kernel
theorem d_Mo_isLawful_5 : decode c_Mo_isLawful 5 = .ok (.iload 4, 2) := by decide +kernel
theorem d_Mo_isLawful_7 : decode c_Mo_isLawful 7 = .ok (.aload_n 0, 1) := by decide +kernel
theorem d_Mo_isLawful_8 : decode c_Mo_isLawful 8 = .ok (.getfield 16, 3) := by decide +kernel
theorem d_Mo_isLawful_11 : decode c_Mo_isLawful 11 = .ok (.invokeinterface 94 1, 5) := by decide +kernel
theorem d_Mo_isLawful_16 : decode c_Mo_isLawful 16 = .ok (.if_icmp .ge 44, 3) := by decide +kernel
theorem d_Mo_isLawful_19 : decode c_Mo_isLawful 19 = .ok (.iload_n 3, 1) := by decide +kernel
theorem d_Mo_isLawful_20 : decode c_Mo_isLawful 20 = .ok (.iload_n 2, 1) := by decide +kernel
theorem d_Mo_isLawful_21 : decode c_Mo_isLawful 21 = .ok (.iload 4, 2) := by decide +kernel
theorem d_Mo_isLawful_23 : decode c_Mo_isLawful 23 = .ok (.invokestatic 76, 3) := by decide +kernel
theorem d_Mo_isLawful_26 : decode c_Mo_isLawful 26 = .ok (.ifCond .eq 25, 3) := by decide +kernel
theorem d_Mo_isLawful_29 : decode c_Mo_isLawful 29 = .ok (.iconst 1, 1) := by decide +kernel
theorem d_Mo_isLawful_30 : decode c_Mo_isLawful 30 = .ok (.aload_n 0, 1) := by decide +kernel
theorem d_Mo_isLawful_31 : decode c_Mo_isLawful 31 = .ok (.getfield 16, 3) := by decide +kernel
theorem d_Mo_isLawful_34 : decode c_Mo_isLawful 34 = .ok (.iload 4, 2) := by decide +kernel
theorem d_Mo_isLawful_36 : decode c_Mo_isLawful 36 = .ok (.invokeinterface 51 2, 5) := by decide +kernel
theorem d_Mo_isLawful_41 : decode c_Mo_isLawful 41 = .ok (.checkcast 57, 3) := by decide +kernel
theorem d_Mo_isLawful_44 : decode c_Mo_isLawful 44 = .ok (.getfield 96, 3) := by decide +kernel
theorem d_Mo_isLawful_47 : decode c_Mo_isLawful 47 = .ok (.ishl, 1) := by decide +kernel
theorem d_Mo_isLawful_48 : decode c_Mo_isLawful 48 = .ok (.goto 4, 3) := by decide +kernel
theorem d_Mo_isLawful_51 : decode c_Mo_isLawful 51 = .ok (.iconst 0, 1) := by decide +kernel
theorem d_Mo_isLawful_52 : decode c_Mo_isLawful 52 = .ok (.ior, 1) := by decide +kernel
theorem d_Mo_isLawful_53 : decode c_Mo_isLawful 53 = .ok (.istore_n 3, 1) := by decide +kernel
theorem d_Mo_isLawful_54 : decode c_Mo_isLawful 54 = .ok (.iinc 4 1, 3) := by decide +kernel
theorem d_Mo_isLawful_57 : decode c_Mo_isLawful 57 = .ok (.goto (-52), 3) := by decide +kernel
theorem d_Mo_isLawful_60 : decode c_Mo_isLawful 60 = .ok (.iload_n 3, 1) := by decide +kernel
theorem d_Mo_isLawful_61 : decode c_Mo_isLawful 61 = .ok (.invokestatic 66, 3) := by decide +kernel
theorem d_Mo_isLawful_64 : decode c_Mo_isLawful 64 = .ok (.aload_n 1, 1) := by decide +kernel
theorem d_Mo_isLawful_65 : decode c_Mo_isLawful 65 = .ok (.getfield 99, 3) := by decide +kernel
theorem d_Mo_isLawful_68 : decode c_Mo_isLawful 68 = .ok (.if_icmp .lt 25, 3) := by decide +kernel
theorem d_Mo_isLawful_71 : decode c_Mo_isLawful 71 = .ok (.aload_n 0, 1) := by decide +kernel
theorem d_Mo_isLawful_72 : decode c_Mo_isLawful 72 = .ok (.getfield 102, 3) := by decide +kernel
theorem d_Mo_isLawful_75 : decode c_Mo_isLawful 75 = .ok (.aload_n 1, 1) := by decide +kernel
theorem d_Mo_isLawful_76 : decode c_Mo_isLawful 76 = .ok (.getfield 105, 3) := by decide +kernel
theorem d_Mo_isLawful_79 : decode c_Mo_isLawful 79 = .ok (.if_icmp .lt 14, 3) := by decide +kernel
theorem d_Mo_isLawful_82 : decode c_Mo_isLawful 82 = .ok (.aload_n 1, 1) := by decide +kernel
theorem d_Mo_isLawful_83 : decode c_Mo_isLawful 83 = .ok (.getfield 108, 3) := by decide +kernel
theorem d_Mo_isLawful_86 : decode c_Mo_isLawful 86 = .ok (.ifCond .ne 7, 3) := by decide +kernel
theorem d_Mo_isLawful_89 : decode c_Mo_isLawful 89 = .ok (.iconst 1, 1) := by decide +kernel
theorem d_Mo_isLawful_90 : decode c_Mo_isLawful 90 = .ok (.goto 4, 3) := by decide +kernel
theorem d_Mo_isLawful_93 : decode c_Mo_isLawful 93 = .ok (.iconst 0, 1) := by decide +kernel
theorem d_Mo_isLawful_94 : decode c_Mo_isLawful 94 = .ok (.ireturn, 1) := by decide +kernel
set_option maxHeartbeats 4000000 in
set_option maxRecDepth 100000 in
theorem m_Mo_isLawful {g0 : State} {d : zD} {l : Launch} {a0 : Array Value} (hs0 : zS0 d a0 g0) (hst : l.stackTraces = false) {G : zG} {B : Nat → Nat} {V : Nat → Nat → Int32} {nk ns ne ec : Nat} (hM : zM d B V nk ns ne ec G) {si : Nat} (hsi : si < ns) (set : Int32) : zMet g0 d l y_Mo_isLawful c_Mo_isLawful 5 ((Option.some Jvm.ClassFile.FieldType.boolean)) 11 0 0 [.ref (B 0), .ref (B (200 + si)), .int set] (G) (zB1 G) (zNo) := by
  have hnk : nk ≤ 8 := hM.2.1
  have hns : ns ≤ 6 := hM.2.2.1
  have hne : ne ≤ 64 := hM.2.2.2.1
  have hp2 : 2 ^ nk ≤ 256 := Nat.pow_le_pow_right (n := 2) (by decide) hnk
  refine z_entry hs0 hst (by decide) (Nat.le_of_ble_eq_true rfl) (fun p e s m args below meth c => ?_)
  refine z_iconst (v := 0) d_Mo_isLawful_0 (by decide) ?_
  refine z_istore_n (L' := [(3, _), (0, _), (1, _), (2, _)]) d_Mo_isLawful_1 rfl (by decide) rfl ?_
  refine z_iconst (v := (nI 0)) d_Mo_isLawful_2 (by decide) ?_
  refine z_istore (L' := [(4, _), (3, _), (0, _), (1, _), (2, _)]) d_Mo_isLawful_3 (by decide) rfl ?_
  have key_5 : ∀ (n : Nat) (i : Nat) (v : Int32), nk - i < n → (i ≤ nk) → Z g0 d y_Mo_isLawful c_Mo_isLawful 5 ((Option.some Jvm.ClassFile.FieldType.boolean)) [] p l e (zR 11 0 0) s m args below meth c (vx_MQ below (zQc g0 d (zB1 G)) (zXc g0 d (zNo)) args s 0 0 (zA g0)) 0 0 (G) [(4, .int (nI i)), (3, .int v), (0, .ref (B 0)), (1, .ref (B (200 + si))), (2, .int set)] [] 5 := by
    intro n
    induction n with
    | zero => intro i v h0; exact absurd h0 (Nat.not_lt_zero _)
    | succ n ih_5 =>
      intro i v hm_5 hi
      refine z_iload 0 d_Mo_isLawful_5 rfl ?_
      refine z_aload_n 2 d_Mo_isLawful_7 rfl rfl ?_
      refine z_get zc_Mo 6 (by decide) qF_Mo_16 hM.mo rfl d_Mo_isLawful_8 ?_
      refine z_callF0 (m_AL_size hs0 hst hM.kl) ym_AL_size zF_AL_size qM_Mo_94 zc_AL hM.kl d_Mo_isLawful_11 rfl (Nat.le_of_ble_eq_true rfl) ⟨Nat.zero_le _, Nat.zero_le _⟩ ⟨Nat.le_of_ble_eq_true rfl, Nat.le_of_ble_eq_true rfl⟩ ?_
      refine z_icmp_ge 60 d_Mo_isLawful_16 (by decide) (fun c_16 => ?_) (fun c_16 => ?_)
      · skip
        refine z_iload_n 1 d_Mo_isLawful_60 rfl rfl ?_
        refine z_callSp0 ((m_Mo_sizeA hs0 hst v)) ym_Mo_size qM_Mo_66 qS_Mo_size d_Mo_isLawful_61 rfl (Nat.le_of_ble_eq_true rfl) ⟨Nat.zero_le _, Nat.zero_le _⟩ ⟨Nat.le_of_ble_eq_true rfl, Nat.le_of_ble_eq_true rfl⟩ (fun r_61 G_61 hp_61 => ?_)
        obtain ⟨⟨v_61, rfl⟩, rfl⟩ := hp_61
        refine z_aload_n 3 d_Mo_isLawful_64 rfl rfl ?_
        refine z_get zc_MS 1 (by decide) qF_Mo_99 (hM.se hsi).1 rfl d_Mo_isLawful_65 ?_
        refine z_icmp_lt 93 d_Mo_isLawful_68 (by decide) (fun c_68 => ?_) (fun c_68 => ?_)
        · skip
          refine z_iconst (v := 0) d_Mo_isLawful_93 (by decide) ?_
          exact z_zret rfl (by first | rfl | exact zb_nar _) (by first | exact ⟨⟨true, rfl⟩, rfl⟩ | exact ⟨⟨false, rfl⟩, rfl⟩ | exact ⟨⟨_, rfl⟩, rfl⟩) (by first | decide | omega) (by first | decide | omega) d_Mo_isLawful_94
        · skip
          refine z_aload_n 2 d_Mo_isLawful_71 rfl rfl ?_
          refine z_get zc_Mo 2 (by decide) qF_Mo_102 hM.mo rfl d_Mo_isLawful_72 ?_
          refine z_aload_n 3 d_Mo_isLawful_75 rfl rfl ?_
          refine z_get zc_MS 2 (by decide) qF_Mo_105 (hM.se hsi).1 rfl d_Mo_isLawful_76 ?_
          refine z_icmp_lt 93 d_Mo_isLawful_79 (by decide) (fun c_79 => ?_) (fun c_79 => ?_)
          · skip
            refine z_iconst (v := 0) d_Mo_isLawful_93 (by decide) ?_
            exact z_zret rfl (by first | rfl | exact zb_nar _) (by first | exact ⟨⟨true, rfl⟩, rfl⟩ | exact ⟨⟨false, rfl⟩, rfl⟩ | exact ⟨⟨_, rfl⟩, rfl⟩) (by first | decide | omega) (by first | decide | omega) d_Mo_isLawful_94
          · skip
            refine z_aload_n 3 d_Mo_isLawful_82 rfl rfl ?_
            refine z_get zc_MS 4 (by decide) qF_Mo_108 (hM.se hsi).1 rfl d_Mo_isLawful_83 ?_
            refine z_if_ne 93 d_Mo_isLawful_86 (by decide) (fun c_86 => ?_) (fun c_86 => ?_)
            · skip
              refine z_iconst (v := 0) d_Mo_isLawful_93 (by decide) ?_
              exact z_zret rfl (by first | rfl | exact zb_nar _) (by first | exact ⟨⟨true, rfl⟩, rfl⟩ | exact ⟨⟨false, rfl⟩, rfl⟩ | exact ⟨⟨_, rfl⟩, rfl⟩) (by first | decide | omega) (by first | decide | omega) d_Mo_isLawful_94
            · skip
              refine z_iconst (v := 1) d_Mo_isLawful_89 (by decide) ?_
              refine z_goto 94 d_Mo_isLawful_90 (by decide) ?_
              exact z_zret rfl (by first | rfl | exact zb_nar _) (by first | exact ⟨⟨true, rfl⟩, rfl⟩ | exact ⟨⟨false, rfl⟩, rfl⟩ | exact ⟨⟨_, rfl⟩, rfl⟩) (by first | decide | omega) (by first | decide | omega) d_Mo_isLawful_94
      · skip
        have hi6 : i < nk := Nat.lt_of_not_le fun q => c_16 (nI_le q (by omega))
        refine z_iload_n 1 d_Mo_isLawful_19 rfl rfl ?_
        refine z_iload_n 4 d_Mo_isLawful_20 rfl rfl ?_
        refine z_iload 0 d_Mo_isLawful_21 rfl ?_
        refine z_callS0 (m_Mo_has hs0 hst set (nI i)) ym_Mo_has qM_Mo_76 qS_Mo_has d_Mo_isLawful_23 rfl (Nat.le_of_ble_eq_true rfl) ⟨Nat.zero_le _, Nat.zero_le _⟩ ⟨Nat.le_of_ble_eq_true rfl, Nat.le_of_ble_eq_true rfl⟩ ?_
        refine z_if_eq 51 d_Mo_isLawful_26 (by decide) (fun c_26 => ?_) (fun c_26 => ?_)
        · skip
          refine z_iconst (v := 0) d_Mo_isLawful_51 (by decide) ?_
          refine z_ior d_Mo_isLawful_52 ?_
          refine z_istore_n (L' := [(3, _), (4, _), (0, _), (1, _), (2, _)]) d_Mo_isLawful_53 rfl (by decide) rfl ?_
          refine z_iinc (v := nI (i + 1)) (L' := [(4, _), (3, _), (0, _), (1, _), (2, _)]) 1 d_Mo_isLawful_54 rfl (nI_1 i) (by decide) rfl ?_
          refine z_goto 5 d_Mo_isLawful_57 (by decide) ?_
          exact ih_5 (i + 1) _ (by omega) (by omega)
        · skip
          refine z_iconst (v := 1) d_Mo_isLawful_29 (by decide) ?_
          refine z_aload_n 2 d_Mo_isLawful_30 rfl rfl ?_
          refine z_get zc_Mo 6 (by decide) qF_Mo_16 hM.mo rfl d_Mo_isLawful_31 ?_
          refine z_iload 0 d_Mo_isLawful_34 rfl ?_
          refine z_callF0 (m_AL_get hs0 hst (hM.kA hi6) hi6 (if_pos hi6)) ym_AL_get zF_AL_get qM_Mo_51 zc_AL (hM.kA hi6).1 d_Mo_isLawful_36 rfl (Nat.le_of_ble_eq_true rfl) ⟨Nat.zero_le _, Nat.zero_le _⟩ ⟨Nat.le_of_ble_eq_true rfl, Nat.le_of_ble_eq_true rfl⟩ ?_
          refine z_castS zc_MK qK_Mo_57 (hM.ke hi6) d_Mo_isLawful_41 ?_
          refine z_get zc_MK 0 (by decide) qF_Mo_96 (hM.ke hi6) rfl d_Mo_isLawful_44 ?_
          refine z_ishl d_Mo_isLawful_47 ?_
          refine z_goto 52 d_Mo_isLawful_48 (by decide) ?_
          refine z_ior d_Mo_isLawful_52 ?_
          refine z_istore_n (L' := [(3, _), (4, _), (0, _), (1, _), (2, _)]) d_Mo_isLawful_53 rfl (by decide) rfl ?_
          refine z_iinc (v := nI (i + 1)) (L' := [(4, _), (3, _), (0, _), (1, _), (2, _)]) 1 d_Mo_isLawful_54 rfl (nI_1 i) (by decide) rfl ?_
          refine z_goto 5 d_Mo_isLawful_57 (by decide) ?_
          exact ih_5 (i + 1) _ (by omega) (by omega)
  exact key_5 (nk + 1) 0 _ (by omega) (by omega)
theorem d_Mo_node_0 : decode c_Mo_node 0 = .ok (.iload_n 1, 1) := by decide +kernel
theorem d_Mo_node_1 : decode c_Mo_node 1 = .ok (.ifCond .ne 46, 3) := by decide +kernel
theorem d_Mo_node_4 : decode c_Mo_node 4 = .ok (.iload_n 2, 1) := by decide +kernel
theorem d_Mo_node_5 : decode c_Mo_node 5 = .ok (.iload_n 3, 1) := by decide +kernel
theorem d_Mo_node_6 : decode c_Mo_node 6 = .ok (.if_icmp .ne 8, 3) := by decide +kernel
theorem d_Mo_node_9 : decode c_Mo_node 9 = .ok (.iload 4, 2) := by decide +kernel
theorem d_Mo_node_11 : decode c_Mo_node 11 = .ok (.goto 35, 3) := by decide +kernel
theorem d_Mo_node_14 : decode c_Mo_node 14 = .ok (.iload_n 2, 1) := by decide +kernel
theorem d_Mo_node_15 : decode c_Mo_node 15 = .ok (.aload_n 0, 1) := by decide +kernel
theorem d_Mo_node_16 : decode c_Mo_node 16 = .ok (.getfield 23, 3) := by decide +kernel
theorem d_Mo_node_19 : decode c_Mo_node 19 = .ok (.invokeinterface 94 1, 5) := by decide +kernel
theorem d_Mo_node_24 : decode c_Mo_node 24 = .ok (.if_icmp .ge 21, 3) := by decide +kernel
theorem d_Mo_node_27 : decode c_Mo_node 27 = .ok (.aload_n 0, 1) := by decide +kernel
theorem d_Mo_node_28 : decode c_Mo_node 28 = .ok (.getfield 23, 3) := by decide +kernel
theorem d_Mo_node_31 : decode c_Mo_node 31 = .ok (.iload_n 2, 1) := by decide +kernel
theorem d_Mo_node_32 : decode c_Mo_node 32 = .ok (.invokeinterface 51 2, 5) := by decide +kernel
theorem d_Mo_node_37 : decode c_Mo_node 37 = .ok (.checkcast 217, 3) := by decide +kernel
theorem d_Mo_node_40 : decode c_Mo_node 40 = .ok (.iconst 3, 1) := by decide +kernel
theorem d_Mo_node_41 : decode c_Mo_node 41 = .ok (.iaload, 1) := by decide +kernel
theorem d_Mo_node_42 : decode c_Mo_node 42 = .ok (.goto 4, 3) := by decide +kernel
theorem d_Mo_node_45 : decode c_Mo_node 45 = .ok (.iconst 0, 1) := by decide +kernel
theorem d_Mo_node_46 : decode c_Mo_node 46 = .ok (.ireturn, 1) := by decide +kernel
set_option maxHeartbeats 4000000 in
set_option maxRecDepth 100000 in
theorem m_Mo_node_0 {g0 : State} {d : zD} {l : Launch} {a0 : Array Value} (hs0 : zS0 d a0 g0) (hst : l.stackTraces = false) {G : zG} {B : Nat → Nat} {V : Nat → Nat → Int32} {nk ns ne ec : Nat} (hM : zM d B V nk ns ne ec G) {kk : Nat} (hkk : kk < 1048576) (o lf : Int32) : zMet g0 d l y_Mo_node c_Mo_node 5 ((Option.some Jvm.ClassFile.FieldType.int)) 12 0 0 [.ref (B 0), .int (nI 0), .int (nI kk), .int o, .int lf] (G) (zI1 G) (zNo) := by
  have hnk : nk ≤ 8 := hM.2.1
  have hns : ns ≤ 6 := hM.2.2.1
  have hne : ne ≤ 64 := hM.2.2.2.1
  have hp2 : 2 ^ nk ≤ 256 := Nat.pow_le_pow_right (n := 2) (by decide) hnk
  refine z_entry hs0 hst (by decide) (Nat.le_of_ble_eq_true rfl) (fun p e s m args below meth c => ?_)
  refine z_iload_n 1 d_Mo_node_0 rfl rfl ?_
  refine z_if_ne 47 d_Mo_node_1 (by decide) (fun c_1 => absurd nI_0 c_1) (fun c_1 => ?_)
  refine z_iload_n 2 d_Mo_node_4 rfl rfl ?_
  refine z_iload_n 3 d_Mo_node_5 rfl rfl ?_
  refine z_icmp_ne 14 d_Mo_node_6 (by decide) (fun c_6 => ?_) (fun c_6 => ?_)
  · skip
    refine z_iload_n 2 d_Mo_node_14 rfl rfl ?_
    refine z_aload_n 0 d_Mo_node_15 rfl rfl ?_
    refine z_get zc_Mo 8 (by decide) qF_Mo_23 hM.mo rfl d_Mo_node_16 ?_
    refine z_callF0 (m_AL_size hs0 hst hM.el) ym_AL_size zF_AL_size qM_Mo_94 zc_AL hM.el d_Mo_node_19 rfl (Nat.le_of_ble_eq_true rfl) ⟨Nat.zero_le _, Nat.zero_le _⟩ ⟨Nat.le_of_ble_eq_true rfl, Nat.le_of_ble_eq_true rfl⟩ ?_
    refine z_icmp_ge 45 d_Mo_node_24 (by decide) (fun c_24 => ?_) (fun c_24 => ?_)
    · skip
      refine z_iconst (v := 0) d_Mo_node_45 (by decide) ?_
      exact z_iret rfl (⟨⟨_, rfl⟩, rfl⟩) (by first | decide | omega) (by first | decide | omega) d_Mo_node_46
    · skip
      have he6 : kk < ne := Nat.lt_of_not_le fun q => c_24 (nI_le q (by omega))
      refine z_aload_n 0 d_Mo_node_27 rfl rfl ?_
      refine z_get zc_Mo 8 (by decide) qF_Mo_23 hM.mo rfl d_Mo_node_28 ?_
      refine z_iload_n 2 d_Mo_node_31 rfl rfl ?_
      refine z_callF0 (m_AL_get hs0 hst (hM.eA he6) he6 (if_pos he6)) ym_AL_get zF_AL_get qM_Mo_51 zc_AL (hM.eA he6).1 d_Mo_node_32 rfl (Nat.le_of_ble_eq_true rfl) ⟨Nat.zero_le _, Nat.zero_le _⟩ ⟨Nat.le_of_ble_eq_true rfl, Nat.le_of_ble_eq_true rfl⟩ ?_
      refine z_castI qK_Mo_217 (hM.en he6) d_Mo_node_37 ?_
      refine z_iconst (v := (nI 3)) d_Mo_node_40 (by decide) ?_
      refine z_ialdN (hM.en he6) (show 3 < 4 by decide) (by decide) d_Mo_node_41 ?_
      refine z_goto 46 d_Mo_node_42 (by decide) ?_
      exact z_iret rfl (⟨⟨_, rfl⟩, rfl⟩) (by first | decide | omega) (by first | decide | omega) d_Mo_node_46
  · skip
    refine z_iload 4 d_Mo_node_9 rfl ?_
    refine z_goto 46 d_Mo_node_11 (by decide) ?_
    exact z_iret rfl (⟨⟨_, rfl⟩, rfl⟩) (by first | decide | omega) (by first | decide | omega) d_Mo_node_46
theorem d_Mo_node_47 : decode c_Mo_node 47 = .ok (.bipush 31, 2) := by decide +kernel
theorem d_Mo_node_49 : decode c_Mo_node 49 = .ok (.aload_n 0, 1) := by decide +kernel
theorem d_Mo_node_50 : decode c_Mo_node 50 = .ok (.iload_n 1, 1) := by decide +kernel
theorem d_Mo_node_51 : decode c_Mo_node 51 = .ok (.iconst 1, 1) := by decide +kernel
theorem d_Mo_node_52 : decode c_Mo_node 52 = .ok (.isub, 1) := by decide +kernel
theorem d_Mo_node_53 : decode c_Mo_node 53 = .ok (.iconst 2, 1) := by decide +kernel
theorem d_Mo_node_54 : decode c_Mo_node 54 = .ok (.iload_n 2, 1) := by decide +kernel
theorem d_Mo_node_55 : decode c_Mo_node 55 = .ok (.imul, 1) := by decide +kernel
theorem d_Mo_node_56 : decode c_Mo_node 56 = .ok (.iload_n 3, 1) := by decide +kernel
theorem d_Mo_node_57 : decode c_Mo_node 57 = .ok (.iload 4, 2) := by decide +kernel
theorem d_Mo_node_59 : decode c_Mo_node 59 = .ok (.invokevirtual 218, 3) := by decide +kernel
theorem d_Mo_node_62 : decode c_Mo_node 62 = .ok (.imul, 1) := by decide +kernel
theorem d_Mo_node_63 : decode c_Mo_node 63 = .ok (.bipush 17, 2) := by decide +kernel
theorem d_Mo_node_65 : decode c_Mo_node 65 = .ok (.aload_n 0, 1) := by decide +kernel
theorem d_Mo_node_66 : decode c_Mo_node 66 = .ok (.iload_n 1, 1) := by decide +kernel
theorem d_Mo_node_67 : decode c_Mo_node 67 = .ok (.iconst 1, 1) := by decide +kernel
theorem d_Mo_node_68 : decode c_Mo_node 68 = .ok (.isub, 1) := by decide +kernel
theorem d_Mo_node_69 : decode c_Mo_node 69 = .ok (.iconst 2, 1) := by decide +kernel
theorem d_Mo_node_70 : decode c_Mo_node 70 = .ok (.iload_n 2, 1) := by decide +kernel
theorem d_Mo_node_71 : decode c_Mo_node 71 = .ok (.imul, 1) := by decide +kernel
theorem d_Mo_node_72 : decode c_Mo_node 72 = .ok (.iconst 1, 1) := by decide +kernel
theorem d_Mo_node_73 : decode c_Mo_node 73 = .ok (.iadd, 1) := by decide +kernel
theorem d_Mo_node_74 : decode c_Mo_node 74 = .ok (.iload_n 3, 1) := by decide +kernel
theorem d_Mo_node_75 : decode c_Mo_node 75 = .ok (.iload 4, 2) := by decide +kernel
theorem d_Mo_node_77 : decode c_Mo_node 77 = .ok (.invokevirtual 218, 3) := by decide +kernel
theorem d_Mo_node_80 : decode c_Mo_node 80 = .ok (.imul, 1) := by decide +kernel
theorem d_Mo_node_81 : decode c_Mo_node 81 = .ok (.iadd, 1) := by decide +kernel
theorem d_Mo_node_82 : decode c_Mo_node 82 = .ok (.iconst 5, 1) := by decide +kernel
theorem d_Mo_node_83 : decode c_Mo_node 83 = .ok (.iadd, 1) := by decide +kernel
theorem d_Mo_node_84 : decode c_Mo_node 84 = .ok (.sipush 9973, 3) := by decide +kernel
theorem d_Mo_node_87 : decode c_Mo_node 87 = .ok (.irem, 1) := by decide +kernel
theorem d_Mo_node_88 : decode c_Mo_node 88 = .ok (.ireturn, 1) := by decide +kernel
set_option maxHeartbeats 4000000 in
set_option maxRecDepth 100000 in
theorem m_Mo_node_1 {g0 : State} {d : zD} {l : Launch} {a0 : Array Value} (hs0 : zS0 d a0 g0) (hst : l.stackTraces = false) {G : zG} {B : Nat → Nat} {V : Nat → Nat → Int32} {nk ns ne ec : Nat} (hM : zM d B V nk ns ne ec G) {kk : Nat} (hkk : kk < 524288) (o lf : Int32) : zMet g0 d l y_Mo_node c_Mo_node 5 ((Option.some Jvm.ClassFile.FieldType.int)) 13 0 0 [.ref (B 0), .int (nI 1), .int (nI kk), .int o, .int lf] (G) (zI1 G) (zNo) := by
  have hnk : nk ≤ 8 := hM.2.1
  have hns : ns ≤ 6 := hM.2.2.1
  have hne : ne ≤ 64 := hM.2.2.2.1
  have hp2 : 2 ^ nk ≤ 256 := Nat.pow_le_pow_right (n := 2) (by decide) hnk
  refine z_entry hs0 hst (by decide) (Nat.le_of_ble_eq_true rfl) (fun p e s m args below meth c => ?_)
  refine z_iload_n 1 d_Mo_node_0 rfl rfl ?_
  refine z_if_ne 47 d_Mo_node_1 (by decide) (fun c_1 => ?_) (fun c_1 => absurd c_1 (by decide))
  refine z_bipush (v := 31) d_Mo_node_47 (by decide) ?_
  refine z_aload_n 0 d_Mo_node_49 rfl rfl ?_
  refine z_iload_n 1 d_Mo_node_50 rfl rfl ?_
  refine z_iconst (v := 1) d_Mo_node_51 (by decide) ?_
  refine z_isub d_Mo_node_52 ?_
  refine z_topv (v := nI 0) (by decide) ?_
  refine z_iconst (v := (nI 2)) d_Mo_node_53 (by decide) ?_
  refine z_iload_n 2 d_Mo_node_54 rfl rfl ?_
  refine z_imul d_Mo_node_55 ?_
  refine z_topv (v := nI (2 * kk)) (pk_mul 2 kk) ?_
  refine z_iload_n 3 d_Mo_node_56 rfl rfl ?_
  refine z_iload 4 d_Mo_node_57 rfl ?_
  refine z_callVp0 ((m_Mo_node_0 hs0 hst hM (kk := 2 * kk) (by omega) o lf)) ym_Mo_node qM_Mo_218 qI_Mo_node qV_Mo_Mo_node zc_Mo hM.mo d_Mo_node_59 rfl (Nat.le_of_ble_eq_true rfl) ⟨Nat.zero_le _, Nat.zero_le _⟩ ⟨Nat.le_of_ble_eq_true rfl, Nat.le_of_ble_eq_true rfl⟩ (fun r_59 G_59 hp_59 => ?_)
  obtain ⟨⟨v_59, rfl⟩, rfl⟩ := hp_59
  refine z_imul d_Mo_node_62 ?_
  refine z_bipush (v := 17) d_Mo_node_63 (by decide) ?_
  refine z_aload_n 0 d_Mo_node_65 rfl rfl ?_
  refine z_iload_n 1 d_Mo_node_66 rfl rfl ?_
  refine z_iconst (v := 1) d_Mo_node_67 (by decide) ?_
  refine z_isub d_Mo_node_68 ?_
  refine z_topv (v := nI 0) (by decide) ?_
  refine z_iconst (v := (nI 2)) d_Mo_node_69 (by decide) ?_
  refine z_iload_n 2 d_Mo_node_70 rfl rfl ?_
  refine z_imul d_Mo_node_71 ?_
  refine z_topv (v := nI (2 * kk)) (pk_mul 2 kk) ?_
  refine z_iconst (v := 1) d_Mo_node_72 (by decide) ?_
  refine z_iadd d_Mo_node_73 ?_
  refine z_topv (v := nI (2 * kk + 1)) (nI_1 _) ?_
  refine z_iload_n 3 d_Mo_node_74 rfl rfl ?_
  refine z_iload 4 d_Mo_node_75 rfl ?_
  refine z_callVp0 ((m_Mo_node_0 hs0 hst hM (kk := 2 * kk + 1) (by omega) o lf)) ym_Mo_node qM_Mo_218 qI_Mo_node qV_Mo_Mo_node zc_Mo hM.mo d_Mo_node_77 rfl (Nat.le_of_ble_eq_true rfl) ⟨Nat.zero_le _, Nat.zero_le _⟩ ⟨Nat.le_of_ble_eq_true rfl, Nat.le_of_ble_eq_true rfl⟩ (fun r_77 G_77 hp_77 => ?_)
  obtain ⟨⟨v_77, rfl⟩, rfl⟩ := hp_77
  refine z_imul d_Mo_node_80 ?_
  refine z_iadd d_Mo_node_81 ?_
  refine z_iconst (v := 5) d_Mo_node_82 (by decide) ?_
  refine z_iadd d_Mo_node_83 ?_
  refine z_sipush (v := 9973) d_Mo_node_84 (by decide) ?_
  refine z_irem d_Mo_node_87 (by decide) ?_
  exact z_iret rfl (⟨⟨_, rfl⟩, rfl⟩) (by first | decide | omega) (by first | decide | omega) d_Mo_node_88
set_option maxHeartbeats 4000000 in
set_option maxRecDepth 100000 in
theorem m_Mo_node_2 {g0 : State} {d : zD} {l : Launch} {a0 : Array Value} (hs0 : zS0 d a0 g0) (hst : l.stackTraces = false) {G : zG} {B : Nat → Nat} {V : Nat → Nat → Int32} {nk ns ne ec : Nat} (hM : zM d B V nk ns ne ec G) {kk : Nat} (hkk : kk < 262144) (o lf : Int32) : zMet g0 d l y_Mo_node c_Mo_node 5 ((Option.some Jvm.ClassFile.FieldType.int)) 14 0 0 [.ref (B 0), .int (nI 2), .int (nI kk), .int o, .int lf] (G) (zI1 G) (zNo) := by
  have hnk : nk ≤ 8 := hM.2.1
  have hns : ns ≤ 6 := hM.2.2.1
  have hne : ne ≤ 64 := hM.2.2.2.1
  have hp2 : 2 ^ nk ≤ 256 := Nat.pow_le_pow_right (n := 2) (by decide) hnk
  refine z_entry hs0 hst (by decide) (Nat.le_of_ble_eq_true rfl) (fun p e s m args below meth c => ?_)
  refine z_iload_n 1 d_Mo_node_0 rfl rfl ?_
  refine z_if_ne 47 d_Mo_node_1 (by decide) (fun c_1 => ?_) (fun c_1 => absurd c_1 (by decide))
  refine z_bipush (v := 31) d_Mo_node_47 (by decide) ?_
  refine z_aload_n 0 d_Mo_node_49 rfl rfl ?_
  refine z_iload_n 1 d_Mo_node_50 rfl rfl ?_
  refine z_iconst (v := 1) d_Mo_node_51 (by decide) ?_
  refine z_isub d_Mo_node_52 ?_
  refine z_topv (v := nI 1) (by decide) ?_
  refine z_iconst (v := (nI 2)) d_Mo_node_53 (by decide) ?_
  refine z_iload_n 2 d_Mo_node_54 rfl rfl ?_
  refine z_imul d_Mo_node_55 ?_
  refine z_topv (v := nI (2 * kk)) (pk_mul 2 kk) ?_
  refine z_iload_n 3 d_Mo_node_56 rfl rfl ?_
  refine z_iload 4 d_Mo_node_57 rfl ?_
  refine z_callVp0 ((m_Mo_node_1 hs0 hst hM (kk := 2 * kk) (by omega) o lf)) ym_Mo_node qM_Mo_218 qI_Mo_node qV_Mo_Mo_node zc_Mo hM.mo d_Mo_node_59 rfl (Nat.le_of_ble_eq_true rfl) ⟨Nat.zero_le _, Nat.zero_le _⟩ ⟨Nat.le_of_ble_eq_true rfl, Nat.le_of_ble_eq_true rfl⟩ (fun r_59 G_59 hp_59 => ?_)
  obtain ⟨⟨v_59, rfl⟩, rfl⟩ := hp_59
  refine z_imul d_Mo_node_62 ?_
  refine z_bipush (v := 17) d_Mo_node_63 (by decide) ?_
  refine z_aload_n 0 d_Mo_node_65 rfl rfl ?_
  refine z_iload_n 1 d_Mo_node_66 rfl rfl ?_
  refine z_iconst (v := 1) d_Mo_node_67 (by decide) ?_
  refine z_isub d_Mo_node_68 ?_
  refine z_topv (v := nI 1) (by decide) ?_
  refine z_iconst (v := (nI 2)) d_Mo_node_69 (by decide) ?_
  refine z_iload_n 2 d_Mo_node_70 rfl rfl ?_
  refine z_imul d_Mo_node_71 ?_
  refine z_topv (v := nI (2 * kk)) (pk_mul 2 kk) ?_
  refine z_iconst (v := 1) d_Mo_node_72 (by decide) ?_
  refine z_iadd d_Mo_node_73 ?_
  refine z_topv (v := nI (2 * kk + 1)) (nI_1 _) ?_
  refine z_iload_n 3 d_Mo_node_74 rfl rfl ?_
  refine z_iload 4 d_Mo_node_75 rfl ?_
  refine z_callVp0 ((m_Mo_node_1 hs0 hst hM (kk := 2 * kk + 1) (by omega) o lf)) ym_Mo_node qM_Mo_218 qI_Mo_node qV_Mo_Mo_node zc_Mo hM.mo d_Mo_node_77 rfl (Nat.le_of_ble_eq_true rfl) ⟨Nat.zero_le _, Nat.zero_le _⟩ ⟨Nat.le_of_ble_eq_true rfl, Nat.le_of_ble_eq_true rfl⟩ (fun r_77 G_77 hp_77 => ?_)
  obtain ⟨⟨v_77, rfl⟩, rfl⟩ := hp_77
  refine z_imul d_Mo_node_80 ?_
  refine z_iadd d_Mo_node_81 ?_
  refine z_iconst (v := 5) d_Mo_node_82 (by decide) ?_
  refine z_iadd d_Mo_node_83 ?_
  refine z_sipush (v := 9973) d_Mo_node_84 (by decide) ?_
  refine z_irem d_Mo_node_87 (by decide) ?_
  exact z_iret rfl (⟨⟨_, rfl⟩, rfl⟩) (by first | decide | omega) (by first | decide | omega) d_Mo_node_88
set_option maxHeartbeats 4000000 in
set_option maxRecDepth 100000 in
theorem m_Mo_node_3 {g0 : State} {d : zD} {l : Launch} {a0 : Array Value} (hs0 : zS0 d a0 g0) (hst : l.stackTraces = false) {G : zG} {B : Nat → Nat} {V : Nat → Nat → Int32} {nk ns ne ec : Nat} (hM : zM d B V nk ns ne ec G) {kk : Nat} (hkk : kk < 131072) (o lf : Int32) : zMet g0 d l y_Mo_node c_Mo_node 5 ((Option.some Jvm.ClassFile.FieldType.int)) 15 0 0 [.ref (B 0), .int (nI 3), .int (nI kk), .int o, .int lf] (G) (zI1 G) (zNo) := by
  have hnk : nk ≤ 8 := hM.2.1
  have hns : ns ≤ 6 := hM.2.2.1
  have hne : ne ≤ 64 := hM.2.2.2.1
  have hp2 : 2 ^ nk ≤ 256 := Nat.pow_le_pow_right (n := 2) (by decide) hnk
  refine z_entry hs0 hst (by decide) (Nat.le_of_ble_eq_true rfl) (fun p e s m args below meth c => ?_)
  refine z_iload_n 1 d_Mo_node_0 rfl rfl ?_
  refine z_if_ne 47 d_Mo_node_1 (by decide) (fun c_1 => ?_) (fun c_1 => absurd c_1 (by decide))
  refine z_bipush (v := 31) d_Mo_node_47 (by decide) ?_
  refine z_aload_n 0 d_Mo_node_49 rfl rfl ?_
  refine z_iload_n 1 d_Mo_node_50 rfl rfl ?_
  refine z_iconst (v := 1) d_Mo_node_51 (by decide) ?_
  refine z_isub d_Mo_node_52 ?_
  refine z_topv (v := nI 2) (by decide) ?_
  refine z_iconst (v := (nI 2)) d_Mo_node_53 (by decide) ?_
  refine z_iload_n 2 d_Mo_node_54 rfl rfl ?_
  refine z_imul d_Mo_node_55 ?_
  refine z_topv (v := nI (2 * kk)) (pk_mul 2 kk) ?_
  refine z_iload_n 3 d_Mo_node_56 rfl rfl ?_
  refine z_iload 4 d_Mo_node_57 rfl ?_
  refine z_callVp0 ((m_Mo_node_2 hs0 hst hM (kk := 2 * kk) (by omega) o lf)) ym_Mo_node qM_Mo_218 qI_Mo_node qV_Mo_Mo_node zc_Mo hM.mo d_Mo_node_59 rfl (Nat.le_of_ble_eq_true rfl) ⟨Nat.zero_le _, Nat.zero_le _⟩ ⟨Nat.le_of_ble_eq_true rfl, Nat.le_of_ble_eq_true rfl⟩ (fun r_59 G_59 hp_59 => ?_)
  obtain ⟨⟨v_59, rfl⟩, rfl⟩ := hp_59
  refine z_imul d_Mo_node_62 ?_
  refine z_bipush (v := 17) d_Mo_node_63 (by decide) ?_
  refine z_aload_n 0 d_Mo_node_65 rfl rfl ?_
  refine z_iload_n 1 d_Mo_node_66 rfl rfl ?_
  refine z_iconst (v := 1) d_Mo_node_67 (by decide) ?_
  refine z_isub d_Mo_node_68 ?_
  refine z_topv (v := nI 2) (by decide) ?_
  refine z_iconst (v := (nI 2)) d_Mo_node_69 (by decide) ?_
  refine z_iload_n 2 d_Mo_node_70 rfl rfl ?_
  refine z_imul d_Mo_node_71 ?_
  refine z_topv (v := nI (2 * kk)) (pk_mul 2 kk) ?_
  refine z_iconst (v := 1) d_Mo_node_72 (by decide) ?_
  refine z_iadd d_Mo_node_73 ?_
  refine z_topv (v := nI (2 * kk + 1)) (nI_1 _) ?_
  refine z_iload_n 3 d_Mo_node_74 rfl rfl ?_
  refine z_iload 4 d_Mo_node_75 rfl ?_
  refine z_callVp0 ((m_Mo_node_2 hs0 hst hM (kk := 2 * kk + 1) (by omega) o lf)) ym_Mo_node qM_Mo_218 qI_Mo_node qV_Mo_Mo_node zc_Mo hM.mo d_Mo_node_77 rfl (Nat.le_of_ble_eq_true rfl) ⟨Nat.zero_le _, Nat.zero_le _⟩ ⟨Nat.le_of_ble_eq_true rfl, Nat.le_of_ble_eq_true rfl⟩ (fun r_77 G_77 hp_77 => ?_)
  obtain ⟨⟨v_77, rfl⟩, rfl⟩ := hp_77
  refine z_imul d_Mo_node_80 ?_
  refine z_iadd d_Mo_node_81 ?_
  refine z_iconst (v := 5) d_Mo_node_82 (by decide) ?_
  refine z_iadd d_Mo_node_83 ?_
  refine z_sipush (v := 9973) d_Mo_node_84 (by decide) ?_
  refine z_irem d_Mo_node_87 (by decide) ?_
  exact z_iret rfl (⟨⟨_, rfl⟩, rfl⟩) (by first | decide | omega) (by first | decide | omega) d_Mo_node_88
set_option maxHeartbeats 4000000 in
set_option maxRecDepth 100000 in
theorem m_Mo_node_4 {g0 : State} {d : zD} {l : Launch} {a0 : Array Value} (hs0 : zS0 d a0 g0) (hst : l.stackTraces = false) {G : zG} {B : Nat → Nat} {V : Nat → Nat → Int32} {nk ns ne ec : Nat} (hM : zM d B V nk ns ne ec G) {kk : Nat} (hkk : kk < 65536) (o lf : Int32) : zMet g0 d l y_Mo_node c_Mo_node 5 ((Option.some Jvm.ClassFile.FieldType.int)) 16 0 0 [.ref (B 0), .int (nI 4), .int (nI kk), .int o, .int lf] (G) (zI1 G) (zNo) := by
  have hnk : nk ≤ 8 := hM.2.1
  have hns : ns ≤ 6 := hM.2.2.1
  have hne : ne ≤ 64 := hM.2.2.2.1
  have hp2 : 2 ^ nk ≤ 256 := Nat.pow_le_pow_right (n := 2) (by decide) hnk
  refine z_entry hs0 hst (by decide) (Nat.le_of_ble_eq_true rfl) (fun p e s m args below meth c => ?_)
  refine z_iload_n 1 d_Mo_node_0 rfl rfl ?_
  refine z_if_ne 47 d_Mo_node_1 (by decide) (fun c_1 => ?_) (fun c_1 => absurd c_1 (by decide))
  refine z_bipush (v := 31) d_Mo_node_47 (by decide) ?_
  refine z_aload_n 0 d_Mo_node_49 rfl rfl ?_
  refine z_iload_n 1 d_Mo_node_50 rfl rfl ?_
  refine z_iconst (v := 1) d_Mo_node_51 (by decide) ?_
  refine z_isub d_Mo_node_52 ?_
  refine z_topv (v := nI 3) (by decide) ?_
  refine z_iconst (v := (nI 2)) d_Mo_node_53 (by decide) ?_
  refine z_iload_n 2 d_Mo_node_54 rfl rfl ?_
  refine z_imul d_Mo_node_55 ?_
  refine z_topv (v := nI (2 * kk)) (pk_mul 2 kk) ?_
  refine z_iload_n 3 d_Mo_node_56 rfl rfl ?_
  refine z_iload 4 d_Mo_node_57 rfl ?_
  refine z_callVp0 ((m_Mo_node_3 hs0 hst hM (kk := 2 * kk) (by omega) o lf)) ym_Mo_node qM_Mo_218 qI_Mo_node qV_Mo_Mo_node zc_Mo hM.mo d_Mo_node_59 rfl (Nat.le_of_ble_eq_true rfl) ⟨Nat.zero_le _, Nat.zero_le _⟩ ⟨Nat.le_of_ble_eq_true rfl, Nat.le_of_ble_eq_true rfl⟩ (fun r_59 G_59 hp_59 => ?_)
  obtain ⟨⟨v_59, rfl⟩, rfl⟩ := hp_59
  refine z_imul d_Mo_node_62 ?_
  refine z_bipush (v := 17) d_Mo_node_63 (by decide) ?_
  refine z_aload_n 0 d_Mo_node_65 rfl rfl ?_
  refine z_iload_n 1 d_Mo_node_66 rfl rfl ?_
  refine z_iconst (v := 1) d_Mo_node_67 (by decide) ?_
  refine z_isub d_Mo_node_68 ?_
  refine z_topv (v := nI 3) (by decide) ?_
  refine z_iconst (v := (nI 2)) d_Mo_node_69 (by decide) ?_
  refine z_iload_n 2 d_Mo_node_70 rfl rfl ?_
  refine z_imul d_Mo_node_71 ?_
  refine z_topv (v := nI (2 * kk)) (pk_mul 2 kk) ?_
  refine z_iconst (v := 1) d_Mo_node_72 (by decide) ?_
  refine z_iadd d_Mo_node_73 ?_
  refine z_topv (v := nI (2 * kk + 1)) (nI_1 _) ?_
  refine z_iload_n 3 d_Mo_node_74 rfl rfl ?_
  refine z_iload 4 d_Mo_node_75 rfl ?_
  refine z_callVp0 ((m_Mo_node_3 hs0 hst hM (kk := 2 * kk + 1) (by omega) o lf)) ym_Mo_node qM_Mo_218 qI_Mo_node qV_Mo_Mo_node zc_Mo hM.mo d_Mo_node_77 rfl (Nat.le_of_ble_eq_true rfl) ⟨Nat.zero_le _, Nat.zero_le _⟩ ⟨Nat.le_of_ble_eq_true rfl, Nat.le_of_ble_eq_true rfl⟩ (fun r_77 G_77 hp_77 => ?_)
  obtain ⟨⟨v_77, rfl⟩, rfl⟩ := hp_77
  refine z_imul d_Mo_node_80 ?_
  refine z_iadd d_Mo_node_81 ?_
  refine z_iconst (v := 5) d_Mo_node_82 (by decide) ?_
  refine z_iadd d_Mo_node_83 ?_
  refine z_sipush (v := 9973) d_Mo_node_84 (by decide) ?_
  refine z_irem d_Mo_node_87 (by decide) ?_
  exact z_iret rfl (⟨⟨_, rfl⟩, rfl⟩) (by first | decide | omega) (by first | decide | omega) d_Mo_node_88
set_option maxHeartbeats 4000000 in
set_option maxRecDepth 100000 in
theorem m_Mo_node_5 {g0 : State} {d : zD} {l : Launch} {a0 : Array Value} (hs0 : zS0 d a0 g0) (hst : l.stackTraces = false) {G : zG} {B : Nat → Nat} {V : Nat → Nat → Int32} {nk ns ne ec : Nat} (hM : zM d B V nk ns ne ec G) {kk : Nat} (hkk : kk < 32768) (o lf : Int32) : zMet g0 d l y_Mo_node c_Mo_node 5 ((Option.some Jvm.ClassFile.FieldType.int)) 17 0 0 [.ref (B 0), .int (nI 5), .int (nI kk), .int o, .int lf] (G) (zI1 G) (zNo) := by
  have hnk : nk ≤ 8 := hM.2.1
  have hns : ns ≤ 6 := hM.2.2.1
  have hne : ne ≤ 64 := hM.2.2.2.1
  have hp2 : 2 ^ nk ≤ 256 := Nat.pow_le_pow_right (n := 2) (by decide) hnk
  refine z_entry hs0 hst (by decide) (Nat.le_of_ble_eq_true rfl) (fun p e s m args below meth c => ?_)
  refine z_iload_n 1 d_Mo_node_0 rfl rfl ?_
  refine z_if_ne 47 d_Mo_node_1 (by decide) (fun c_1 => ?_) (fun c_1 => absurd c_1 (by decide))
  refine z_bipush (v := 31) d_Mo_node_47 (by decide) ?_
  refine z_aload_n 0 d_Mo_node_49 rfl rfl ?_
  refine z_iload_n 1 d_Mo_node_50 rfl rfl ?_
  refine z_iconst (v := 1) d_Mo_node_51 (by decide) ?_
  refine z_isub d_Mo_node_52 ?_
  refine z_topv (v := nI 4) (by decide) ?_
  refine z_iconst (v := (nI 2)) d_Mo_node_53 (by decide) ?_
  refine z_iload_n 2 d_Mo_node_54 rfl rfl ?_
  refine z_imul d_Mo_node_55 ?_
  refine z_topv (v := nI (2 * kk)) (pk_mul 2 kk) ?_
  refine z_iload_n 3 d_Mo_node_56 rfl rfl ?_
  refine z_iload 4 d_Mo_node_57 rfl ?_
  refine z_callVp0 ((m_Mo_node_4 hs0 hst hM (kk := 2 * kk) (by omega) o lf)) ym_Mo_node qM_Mo_218 qI_Mo_node qV_Mo_Mo_node zc_Mo hM.mo d_Mo_node_59 rfl (Nat.le_of_ble_eq_true rfl) ⟨Nat.zero_le _, Nat.zero_le _⟩ ⟨Nat.le_of_ble_eq_true rfl, Nat.le_of_ble_eq_true rfl⟩ (fun r_59 G_59 hp_59 => ?_)
  obtain ⟨⟨v_59, rfl⟩, rfl⟩ := hp_59
  refine z_imul d_Mo_node_62 ?_
  refine z_bipush (v := 17) d_Mo_node_63 (by decide) ?_
  refine z_aload_n 0 d_Mo_node_65 rfl rfl ?_
  refine z_iload_n 1 d_Mo_node_66 rfl rfl ?_
  refine z_iconst (v := 1) d_Mo_node_67 (by decide) ?_
  refine z_isub d_Mo_node_68 ?_
  refine z_topv (v := nI 4) (by decide) ?_
  refine z_iconst (v := (nI 2)) d_Mo_node_69 (by decide) ?_
  refine z_iload_n 2 d_Mo_node_70 rfl rfl ?_
  refine z_imul d_Mo_node_71 ?_
  refine z_topv (v := nI (2 * kk)) (pk_mul 2 kk) ?_
  refine z_iconst (v := 1) d_Mo_node_72 (by decide) ?_
  refine z_iadd d_Mo_node_73 ?_
  refine z_topv (v := nI (2 * kk + 1)) (nI_1 _) ?_
  refine z_iload_n 3 d_Mo_node_74 rfl rfl ?_
  refine z_iload 4 d_Mo_node_75 rfl ?_
  refine z_callVp0 ((m_Mo_node_4 hs0 hst hM (kk := 2 * kk + 1) (by omega) o lf)) ym_Mo_node qM_Mo_218 qI_Mo_node qV_Mo_Mo_node zc_Mo hM.mo d_Mo_node_77 rfl (Nat.le_of_ble_eq_true rfl) ⟨Nat.zero_le _, Nat.zero_le _⟩ ⟨Nat.le_of_ble_eq_true rfl, Nat.le_of_ble_eq_true rfl⟩ (fun r_77 G_77 hp_77 => ?_)
  obtain ⟨⟨v_77, rfl⟩, rfl⟩ := hp_77
  refine z_imul d_Mo_node_80 ?_
  refine z_iadd d_Mo_node_81 ?_
  refine z_iconst (v := 5) d_Mo_node_82 (by decide) ?_
  refine z_iadd d_Mo_node_83 ?_
  refine z_sipush (v := 9973) d_Mo_node_84 (by decide) ?_
  refine z_irem d_Mo_node_87 (by decide) ?_
  exact z_iret rfl (⟨⟨_, rfl⟩, rfl⟩) (by first | decide | omega) (by first | decide | omega) d_Mo_node_88
set_option maxHeartbeats 4000000 in
set_option maxRecDepth 100000 in
theorem m_Mo_node_6 {g0 : State} {d : zD} {l : Launch} {a0 : Array Value} (hs0 : zS0 d a0 g0) (hst : l.stackTraces = false) {G : zG} {B : Nat → Nat} {V : Nat → Nat → Int32} {nk ns ne ec : Nat} (hM : zM d B V nk ns ne ec G) {kk : Nat} (hkk : kk < 16384) (o lf : Int32) : zMet g0 d l y_Mo_node c_Mo_node 5 ((Option.some Jvm.ClassFile.FieldType.int)) 18 0 0 [.ref (B 0), .int (nI 6), .int (nI kk), .int o, .int lf] (G) (zI1 G) (zNo) := by
  have hnk : nk ≤ 8 := hM.2.1
  have hns : ns ≤ 6 := hM.2.2.1
  have hne : ne ≤ 64 := hM.2.2.2.1
  have hp2 : 2 ^ nk ≤ 256 := Nat.pow_le_pow_right (n := 2) (by decide) hnk
  refine z_entry hs0 hst (by decide) (Nat.le_of_ble_eq_true rfl) (fun p e s m args below meth c => ?_)
  refine z_iload_n 1 d_Mo_node_0 rfl rfl ?_
  refine z_if_ne 47 d_Mo_node_1 (by decide) (fun c_1 => ?_) (fun c_1 => absurd c_1 (by decide))
  refine z_bipush (v := 31) d_Mo_node_47 (by decide) ?_
  refine z_aload_n 0 d_Mo_node_49 rfl rfl ?_
  refine z_iload_n 1 d_Mo_node_50 rfl rfl ?_
  refine z_iconst (v := 1) d_Mo_node_51 (by decide) ?_
  refine z_isub d_Mo_node_52 ?_
  refine z_topv (v := nI 5) (by decide) ?_
  refine z_iconst (v := (nI 2)) d_Mo_node_53 (by decide) ?_
  refine z_iload_n 2 d_Mo_node_54 rfl rfl ?_
  refine z_imul d_Mo_node_55 ?_
  refine z_topv (v := nI (2 * kk)) (pk_mul 2 kk) ?_
  refine z_iload_n 3 d_Mo_node_56 rfl rfl ?_
  refine z_iload 4 d_Mo_node_57 rfl ?_
  refine z_callVp0 ((m_Mo_node_5 hs0 hst hM (kk := 2 * kk) (by omega) o lf)) ym_Mo_node qM_Mo_218 qI_Mo_node qV_Mo_Mo_node zc_Mo hM.mo d_Mo_node_59 rfl (Nat.le_of_ble_eq_true rfl) ⟨Nat.zero_le _, Nat.zero_le _⟩ ⟨Nat.le_of_ble_eq_true rfl, Nat.le_of_ble_eq_true rfl⟩ (fun r_59 G_59 hp_59 => ?_)
  obtain ⟨⟨v_59, rfl⟩, rfl⟩ := hp_59
  refine z_imul d_Mo_node_62 ?_
  refine z_bipush (v := 17) d_Mo_node_63 (by decide) ?_
  refine z_aload_n 0 d_Mo_node_65 rfl rfl ?_
  refine z_iload_n 1 d_Mo_node_66 rfl rfl ?_
  refine z_iconst (v := 1) d_Mo_node_67 (by decide) ?_
  refine z_isub d_Mo_node_68 ?_
  refine z_topv (v := nI 5) (by decide) ?_
  refine z_iconst (v := (nI 2)) d_Mo_node_69 (by decide) ?_
  refine z_iload_n 2 d_Mo_node_70 rfl rfl ?_
  refine z_imul d_Mo_node_71 ?_
  refine z_topv (v := nI (2 * kk)) (pk_mul 2 kk) ?_
  refine z_iconst (v := 1) d_Mo_node_72 (by decide) ?_
  refine z_iadd d_Mo_node_73 ?_
  refine z_topv (v := nI (2 * kk + 1)) (nI_1 _) ?_
  refine z_iload_n 3 d_Mo_node_74 rfl rfl ?_
  refine z_iload 4 d_Mo_node_75 rfl ?_
  refine z_callVp0 ((m_Mo_node_5 hs0 hst hM (kk := 2 * kk + 1) (by omega) o lf)) ym_Mo_node qM_Mo_218 qI_Mo_node qV_Mo_Mo_node zc_Mo hM.mo d_Mo_node_77 rfl (Nat.le_of_ble_eq_true rfl) ⟨Nat.zero_le _, Nat.zero_le _⟩ ⟨Nat.le_of_ble_eq_true rfl, Nat.le_of_ble_eq_true rfl⟩ (fun r_77 G_77 hp_77 => ?_)
  obtain ⟨⟨v_77, rfl⟩, rfl⟩ := hp_77
  refine z_imul d_Mo_node_80 ?_
  refine z_iadd d_Mo_node_81 ?_
  refine z_iconst (v := 5) d_Mo_node_82 (by decide) ?_
  refine z_iadd d_Mo_node_83 ?_
  refine z_sipush (v := 9973) d_Mo_node_84 (by decide) ?_
  refine z_irem d_Mo_node_87 (by decide) ?_
  exact z_iret rfl (⟨⟨_, rfl⟩, rfl⟩) (by first | decide | omega) (by first | decide | omega) d_Mo_node_88
theorem d_Mo_root_0 : decode c_Mo_root 0 = .ok (.aload_n 0, 1) := by decide +kernel
theorem d_Mo_root_1 : decode c_Mo_root 1 = .ok (.bipush 6, 2) := by decide +kernel
theorem d_Mo_root_3 : decode c_Mo_root 3 = .ok (.iconst 0, 1) := by decide +kernel
theorem d_Mo_root_4 : decode c_Mo_root 4 = .ok (.iconst (-1), 1) := by decide +kernel
theorem d_Mo_root_5 : decode c_Mo_root 5 = .ok (.iconst 0, 1) := by decide +kernel
theorem d_Mo_root_6 : decode c_Mo_root 6 = .ok (.invokevirtual 218, 3) := by decide +kernel
theorem d_Mo_root_9 : decode c_Mo_root 9 = .ok (.ireturn, 1) := by decide +kernel
set_option maxHeartbeats 4000000 in
set_option maxRecDepth 100000 in
theorem m_Mo_root {g0 : State} {d : zD} {l : Launch} {a0 : Array Value} (hs0 : zS0 d a0 g0) (hst : l.stackTraces = false) {G : zG} {B : Nat → Nat} {V : Nat → Nat → Int32} {nk ns ne ec : Nat} (hM : zM d B V nk ns ne ec G) : zMet g0 d l y_Mo_root c_Mo_root 1 ((Option.some Jvm.ClassFile.FieldType.int)) 20 0 0 [.ref (B 0)] (G) (zI1 G) (zNo) := by
  have hnk : nk ≤ 8 := hM.2.1
  have hns : ns ≤ 6 := hM.2.2.1
  have hne : ne ≤ 64 := hM.2.2.2.1
  have hp2 : 2 ^ nk ≤ 256 := Nat.pow_le_pow_right (n := 2) (by decide) hnk
  refine z_entry hs0 hst (by decide) (Nat.le_of_ble_eq_true rfl) (fun p e s m args below meth c => ?_)
  refine z_aload_n 0 d_Mo_root_0 rfl rfl ?_
  refine z_bipush (v := (nI 6)) d_Mo_root_1 (by decide) ?_
  refine z_iconst (v := (nI 0)) d_Mo_root_3 (by decide) ?_
  refine z_iconst (v := (-1)) d_Mo_root_4 (by decide) ?_
  refine z_iconst (v := 0) d_Mo_root_5 (by decide) ?_
  refine z_callVp0 ((m_Mo_node_6 hs0 hst hM (kk := 0) (by decide) (-1) 0)) ym_Mo_node qM_Mo_218 qI_Mo_node qV_Mo_Mo_node zc_Mo hM.mo d_Mo_root_6 rfl (Nat.le_of_ble_eq_true rfl) ⟨Nat.zero_le _, Nat.zero_le _⟩ ⟨Nat.le_of_ble_eq_true rfl, Nat.le_of_ble_eq_true rfl⟩ (fun r_6 G_6 hp_6 => ?_)
  obtain ⟨⟨v_6, rfl⟩, rfl⟩ := hp_6
  exact z_iret rfl (⟨⟨_, rfl⟩, rfl⟩) (by first | decide | omega) (by first | decide | omega) d_Mo_root_9
theorem d_Mo_proofNow_0 : decode c_Mo_proofNow 0 = .ok (.iload_n 1, 1) := by decide +kernel
theorem d_Mo_proofNow_1 : decode c_Mo_proofNow 1 = .ok (.istore_n 3, 1) := by decide +kernel
theorem d_Mo_proofNow_2 : decode c_Mo_proofNow 2 = .ok (.iconst 0, 1) := by decide +kernel
theorem d_Mo_proofNow_3 : decode c_Mo_proofNow 3 = .ok (.istore 4, 2) := by decide +kernel
theorem d_Mo_proofNow_5 : decode c_Mo_proofNow 5 = .ok (.iload 4, 2) := by decide +kernel
theorem d_Mo_proofNow_7 : decode c_Mo_proofNow 7 = .ok (.iload_n 2, 1) := by decide +kernel
theorem d_Mo_proofNow_8 : decode c_Mo_proofNow 8 = .ok (.if_icmp .ge 13, 3) := by decide +kernel
theorem d_Mo_proofNow_11 : decode c_Mo_proofNow 11 = .ok (.iload_n 3, 1) := by decide +kernel
theorem d_Mo_proofNow_12 : decode c_Mo_proofNow 12 = .ok (.iconst 2, 1) := by decide +kernel
theorem d_Mo_proofNow_13 : decode c_Mo_proofNow 13 = .ok (.idiv, 1) := by decide +kernel
theorem d_Mo_proofNow_14 : decode c_Mo_proofNow 14 = .ok (.istore_n 3, 1) := by decide +kernel
theorem d_Mo_proofNow_15 : decode c_Mo_proofNow 15 = .ok (.iinc 4 1, 3) := by decide +kernel
theorem d_Mo_proofNow_18 : decode c_Mo_proofNow 18 = .ok (.goto (-13), 3) := by decide +kernel
theorem d_Mo_proofNow_21 : decode c_Mo_proofNow 21 = .ok (.aload_n 0, 1) := by decide +kernel
theorem d_Mo_proofNow_22 : decode c_Mo_proofNow 22 = .ok (.iload_n 2, 1) := by decide +kernel
theorem d_Mo_proofNow_23 : decode c_Mo_proofNow 23 = .ok (.iload_n 3, 1) := by decide +kernel
theorem d_Mo_proofNow_24 : decode c_Mo_proofNow 24 = .ok (.iconst 2, 1) := by decide +kernel
theorem d_Mo_proofNow_25 : decode c_Mo_proofNow 25 = .ok (.irem, 1) := by decide +kernel
theorem d_Mo_proofNow_26 : decode c_Mo_proofNow 26 = .ok (.ifCond .ne 9, 3) := by decide +kernel
theorem d_Mo_proofNow_29 : decode c_Mo_proofNow 29 = .ok (.iload_n 3, 1) := by decide +kernel
theorem d_Mo_proofNow_30 : decode c_Mo_proofNow 30 = .ok (.iconst 1, 1) := by decide +kernel
theorem d_Mo_proofNow_31 : decode c_Mo_proofNow 31 = .ok (.iadd, 1) := by decide +kernel
theorem d_Mo_proofNow_32 : decode c_Mo_proofNow 32 = .ok (.goto 6, 3) := by decide +kernel
theorem d_Mo_proofNow_35 : decode c_Mo_proofNow 35 = .ok (.iload_n 3, 1) := by decide +kernel
theorem d_Mo_proofNow_36 : decode c_Mo_proofNow 36 = .ok (.iconst 1, 1) := by decide +kernel
theorem d_Mo_proofNow_37 : decode c_Mo_proofNow 37 = .ok (.isub, 1) := by decide +kernel
theorem d_Mo_proofNow_38 : decode c_Mo_proofNow 38 = .ok (.iconst (-1), 1) := by decide +kernel
theorem d_Mo_proofNow_39 : decode c_Mo_proofNow 39 = .ok (.iconst 0, 1) := by decide +kernel
theorem d_Mo_proofNow_40 : decode c_Mo_proofNow 40 = .ok (.invokevirtual 218, 3) := by decide +kernel
theorem d_Mo_proofNow_43 : decode c_Mo_proofNow 43 = .ok (.ireturn, 1) := by decide +kernel
set_option maxHeartbeats 4000000 in
set_option maxRecDepth 100000 in
theorem m_Mo_proofNow_0 {g0 : State} {d : zD} {l : Launch} {a0 : Array Value} (hs0 : zS0 d a0 g0) (hst : l.stackTraces = false) {G : zG} {B : Nat → Nat} {V : Nat → Nat → Int32} {nk ns ne ec : Nat} (hM : zM d B V nk ns ne ec G) {e9 : Nat} (he : e9 < 64) : zMet g0 d l y_Mo_proofNow c_Mo_proofNow 5 ((Option.some Jvm.ClassFile.FieldType.int)) 20 0 0 [.ref (B 0), .int (nI e9), .int (nI 0)] (G) (zI1 G) (zNo) := by
  have hnk : nk ≤ 8 := hM.2.1
  have hns : ns ≤ 6 := hM.2.2.1
  have hne : ne ≤ 64 := hM.2.2.2.1
  have hp2 : 2 ^ nk ≤ 256 := Nat.pow_le_pow_right (n := 2) (by decide) hnk
  refine z_entry hs0 hst (by decide) (Nat.le_of_ble_eq_true rfl) (fun p e s m args below meth c => ?_)
  refine z_iload_n 1 d_Mo_proofNow_0 rfl rfl ?_
  refine z_istore_n (L' := [(3, _), (0, _), (1, _), (2, _)]) d_Mo_proofNow_1 rfl (by decide) rfl ?_
  refine z_iconst (v := (nI 0)) d_Mo_proofNow_2 (by decide) ?_
  refine z_istore (L' := [(4, _), (3, _), (0, _), (1, _), (2, _)]) d_Mo_proofNow_3 (by decide) rfl ?_
  have key_5 : ∀ (n : Nat) (i : Nat) (kk : Nat), 0 - i < n → (i ≤ 0) → (kk < 64) → Z g0 d y_Mo_proofNow c_Mo_proofNow 5 ((Option.some Jvm.ClassFile.FieldType.int)) [] p l e (zR 20 0 0) s m args below meth c (vx_MQ below (zQc g0 d (zI1 G)) (zXc g0 d (zNo)) args s 0 0 (zA g0)) 0 0 (G) [(4, .int (nI i)), (3, .int (nI kk)), (0, .ref (B 0)), (1, .int (nI e9)), (2, .int (nI 0))] [] 5 := by
    intro n
    induction n with
    | zero => intro i kk h0; exact absurd h0 (Nat.not_lt_zero _)
    | succ n ih_5 =>
      intro i kk hm_5 hi hk
      refine z_iload 0 d_Mo_proofNow_5 rfl ?_
      refine z_iload_n 4 d_Mo_proofNow_7 rfl rfl ?_
      refine z_icmp_ge 21 d_Mo_proofNow_8 (by decide) (fun c_8 => ?_) (fun c_8 => ?_)
      · skip
        refine z_aload_n 2 d_Mo_proofNow_21 rfl rfl ?_
        refine z_iload_n 4 d_Mo_proofNow_22 rfl rfl ?_
        refine z_iload_n 1 d_Mo_proofNow_23 rfl rfl ?_
        refine z_iconst (v := 2) d_Mo_proofNow_24 (by decide) ?_
        refine z_irem d_Mo_proofNow_25 (by decide) ?_
        refine z_topv (v := nI (kk % 2)) (by rw [show (2 : Int32) = nI 2 from rfl]; exact pk_rem (by omega) (by decide) (by decide)) ?_
        refine z_if_ne 35 d_Mo_proofNow_26 (by decide) (fun c_26 => ?_) (fun c_26 => ?_)
        · skip
          have hk1 : 1 ≤ kk := Nat.pos_of_ne_zero fun e => c_26 (by subst e; decide)
          refine z_iload_n 1 d_Mo_proofNow_35 rfl rfl ?_
          refine z_iconst (v := 1) d_Mo_proofNow_36 (by decide) ?_
          refine z_isub d_Mo_proofNow_37 ?_
          refine z_topv (v := nI (kk - 1)) (nI_s1 hk1 (by omega)) ?_
          refine z_iconst (v := (-1)) d_Mo_proofNow_38 (by decide) ?_
          refine z_iconst (v := 0) d_Mo_proofNow_39 (by decide) ?_
          refine z_callVp0 ((m_Mo_node_0 hs0 hst hM (by omega) (-1) 0)) ym_Mo_node qM_Mo_218 qI_Mo_node qV_Mo_Mo_node zc_Mo hM.mo d_Mo_proofNow_40 rfl (Nat.le_of_ble_eq_true rfl) ⟨Nat.zero_le _, Nat.zero_le _⟩ ⟨Nat.le_of_ble_eq_true rfl, Nat.le_of_ble_eq_true rfl⟩ (fun r_40 G_40 hp_40 => ?_)
          obtain ⟨⟨v_40, rfl⟩, rfl⟩ := hp_40
          exact z_iret rfl (⟨⟨_, rfl⟩, rfl⟩) (by first | decide | omega) (by first | decide | omega) d_Mo_proofNow_43
        · skip
          refine z_iload_n 1 d_Mo_proofNow_29 rfl rfl ?_
          refine z_iconst (v := 1) d_Mo_proofNow_30 (by decide) ?_
          refine z_iadd d_Mo_proofNow_31 ?_
          refine z_topv (v := nI (kk + 1)) (nI_1 _) ?_
          refine z_goto 38 d_Mo_proofNow_32 (by decide) ?_
          refine z_iconst (v := (-1)) d_Mo_proofNow_38 (by decide) ?_
          refine z_iconst (v := 0) d_Mo_proofNow_39 (by decide) ?_
          refine z_callVp0 ((m_Mo_node_0 hs0 hst hM (by omega) (-1) 0)) ym_Mo_node qM_Mo_218 qI_Mo_node qV_Mo_Mo_node zc_Mo hM.mo d_Mo_proofNow_40 rfl (Nat.le_of_ble_eq_true rfl) ⟨Nat.zero_le _, Nat.zero_le _⟩ ⟨Nat.le_of_ble_eq_true rfl, Nat.le_of_ble_eq_true rfl⟩ (fun r_40 G_40 hp_40 => ?_)
          obtain ⟨⟨v_40, rfl⟩, rfl⟩ := hp_40
          exact z_iret rfl (⟨⟨_, rfl⟩, rfl⟩) (by first | decide | omega) (by first | decide | omega) d_Mo_proofNow_43
      · skip
        have hi6 : i < 0 := Nat.lt_of_not_le fun q => c_8 (nI_le (a := 0) (b := i) q (by omega))
        refine z_iload_n 1 d_Mo_proofNow_11 rfl rfl ?_
        refine z_iconst (v := 2) d_Mo_proofNow_12 (by decide) ?_
        refine z_idiv d_Mo_proofNow_13 (by decide) ?_
        refine z_topv (v := nI (kk / 2)) (by rw [show (2 : Int32) = nI 2 from rfl]; exact pk_div (by omega) (by decide) (by decide)) ?_
        refine z_istore_n (L' := [(3, _), (4, _), (0, _), (1, _), (2, _)]) d_Mo_proofNow_14 rfl (by decide) rfl ?_
        refine z_iinc (v := nI (i + 1)) (L' := [(4, _), (3, _), (0, _), (1, _), (2, _)]) 1 d_Mo_proofNow_15 rfl (nI_1 i) (by decide) rfl ?_
        refine z_goto 5 d_Mo_proofNow_18 (by decide) ?_
        exact ih_5 (i + 1) _ (by omega) (by omega) (by omega)
  exact key_5 1 0 _ (by omega) (by omega) he
set_option maxHeartbeats 4000000 in
set_option maxRecDepth 100000 in
theorem m_Mo_proofNow_1 {g0 : State} {d : zD} {l : Launch} {a0 : Array Value} (hs0 : zS0 d a0 g0) (hst : l.stackTraces = false) {G : zG} {B : Nat → Nat} {V : Nat → Nat → Int32} {nk ns ne ec : Nat} (hM : zM d B V nk ns ne ec G) {e9 : Nat} (he : e9 < 64) : zMet g0 d l y_Mo_proofNow c_Mo_proofNow 5 ((Option.some Jvm.ClassFile.FieldType.int)) 20 0 0 [.ref (B 0), .int (nI e9), .int (nI 1)] (G) (zI1 G) (zNo) := by
  have hnk : nk ≤ 8 := hM.2.1
  have hns : ns ≤ 6 := hM.2.2.1
  have hne : ne ≤ 64 := hM.2.2.2.1
  have hp2 : 2 ^ nk ≤ 256 := Nat.pow_le_pow_right (n := 2) (by decide) hnk
  refine z_entry hs0 hst (by decide) (Nat.le_of_ble_eq_true rfl) (fun p e s m args below meth c => ?_)
  refine z_iload_n 1 d_Mo_proofNow_0 rfl rfl ?_
  refine z_istore_n (L' := [(3, _), (0, _), (1, _), (2, _)]) d_Mo_proofNow_1 rfl (by decide) rfl ?_
  refine z_iconst (v := (nI 0)) d_Mo_proofNow_2 (by decide) ?_
  refine z_istore (L' := [(4, _), (3, _), (0, _), (1, _), (2, _)]) d_Mo_proofNow_3 (by decide) rfl ?_
  have key_5 : ∀ (n : Nat) (i : Nat) (kk : Nat), 1 - i < n → (i ≤ 1) → (kk < 64) → Z g0 d y_Mo_proofNow c_Mo_proofNow 5 ((Option.some Jvm.ClassFile.FieldType.int)) [] p l e (zR 20 0 0) s m args below meth c (vx_MQ below (zQc g0 d (zI1 G)) (zXc g0 d (zNo)) args s 0 0 (zA g0)) 0 0 (G) [(4, .int (nI i)), (3, .int (nI kk)), (0, .ref (B 0)), (1, .int (nI e9)), (2, .int (nI 1))] [] 5 := by
    intro n
    induction n with
    | zero => intro i kk h0; exact absurd h0 (Nat.not_lt_zero _)
    | succ n ih_5 =>
      intro i kk hm_5 hi hk
      refine z_iload 0 d_Mo_proofNow_5 rfl ?_
      refine z_iload_n 4 d_Mo_proofNow_7 rfl rfl ?_
      refine z_icmp_ge 21 d_Mo_proofNow_8 (by decide) (fun c_8 => ?_) (fun c_8 => ?_)
      · skip
        refine z_aload_n 2 d_Mo_proofNow_21 rfl rfl ?_
        refine z_iload_n 4 d_Mo_proofNow_22 rfl rfl ?_
        refine z_iload_n 1 d_Mo_proofNow_23 rfl rfl ?_
        refine z_iconst (v := 2) d_Mo_proofNow_24 (by decide) ?_
        refine z_irem d_Mo_proofNow_25 (by decide) ?_
        refine z_topv (v := nI (kk % 2)) (by rw [show (2 : Int32) = nI 2 from rfl]; exact pk_rem (by omega) (by decide) (by decide)) ?_
        refine z_if_ne 35 d_Mo_proofNow_26 (by decide) (fun c_26 => ?_) (fun c_26 => ?_)
        · skip
          have hk1 : 1 ≤ kk := Nat.pos_of_ne_zero fun e => c_26 (by subst e; decide)
          refine z_iload_n 1 d_Mo_proofNow_35 rfl rfl ?_
          refine z_iconst (v := 1) d_Mo_proofNow_36 (by decide) ?_
          refine z_isub d_Mo_proofNow_37 ?_
          refine z_topv (v := nI (kk - 1)) (nI_s1 hk1 (by omega)) ?_
          refine z_iconst (v := (-1)) d_Mo_proofNow_38 (by decide) ?_
          refine z_iconst (v := 0) d_Mo_proofNow_39 (by decide) ?_
          refine z_callVp0 ((m_Mo_node_1 hs0 hst hM (by omega) (-1) 0)) ym_Mo_node qM_Mo_218 qI_Mo_node qV_Mo_Mo_node zc_Mo hM.mo d_Mo_proofNow_40 rfl (Nat.le_of_ble_eq_true rfl) ⟨Nat.zero_le _, Nat.zero_le _⟩ ⟨Nat.le_of_ble_eq_true rfl, Nat.le_of_ble_eq_true rfl⟩ (fun r_40 G_40 hp_40 => ?_)
          obtain ⟨⟨v_40, rfl⟩, rfl⟩ := hp_40
          exact z_iret rfl (⟨⟨_, rfl⟩, rfl⟩) (by first | decide | omega) (by first | decide | omega) d_Mo_proofNow_43
        · skip
          refine z_iload_n 1 d_Mo_proofNow_29 rfl rfl ?_
          refine z_iconst (v := 1) d_Mo_proofNow_30 (by decide) ?_
          refine z_iadd d_Mo_proofNow_31 ?_
          refine z_topv (v := nI (kk + 1)) (nI_1 _) ?_
          refine z_goto 38 d_Mo_proofNow_32 (by decide) ?_
          refine z_iconst (v := (-1)) d_Mo_proofNow_38 (by decide) ?_
          refine z_iconst (v := 0) d_Mo_proofNow_39 (by decide) ?_
          refine z_callVp0 ((m_Mo_node_1 hs0 hst hM (by omega) (-1) 0)) ym_Mo_node qM_Mo_218 qI_Mo_node qV_Mo_Mo_node zc_Mo hM.mo d_Mo_proofNow_40 rfl (Nat.le_of_ble_eq_true rfl) ⟨Nat.zero_le _, Nat.zero_le _⟩ ⟨Nat.le_of_ble_eq_true rfl, Nat.le_of_ble_eq_true rfl⟩ (fun r_40 G_40 hp_40 => ?_)
          obtain ⟨⟨v_40, rfl⟩, rfl⟩ := hp_40
          exact z_iret rfl (⟨⟨_, rfl⟩, rfl⟩) (by first | decide | omega) (by first | decide | omega) d_Mo_proofNow_43
      · skip
        have hi6 : i < 1 := Nat.lt_of_not_le fun q => c_8 (nI_le (a := 1) (b := i) q (by omega))
        refine z_iload_n 1 d_Mo_proofNow_11 rfl rfl ?_
        refine z_iconst (v := 2) d_Mo_proofNow_12 (by decide) ?_
        refine z_idiv d_Mo_proofNow_13 (by decide) ?_
        refine z_topv (v := nI (kk / 2)) (by rw [show (2 : Int32) = nI 2 from rfl]; exact pk_div (by omega) (by decide) (by decide)) ?_
        refine z_istore_n (L' := [(3, _), (4, _), (0, _), (1, _), (2, _)]) d_Mo_proofNow_14 rfl (by decide) rfl ?_
        refine z_iinc (v := nI (i + 1)) (L' := [(4, _), (3, _), (0, _), (1, _), (2, _)]) 1 d_Mo_proofNow_15 rfl (nI_1 i) (by decide) rfl ?_
        refine z_goto 5 d_Mo_proofNow_18 (by decide) ?_
        exact ih_5 (i + 1) _ (by omega) (by omega) (by omega)
  exact key_5 2 0 _ (by omega) (by omega) he
set_option maxHeartbeats 4000000 in
set_option maxRecDepth 100000 in
theorem m_Mo_proofNow_2 {g0 : State} {d : zD} {l : Launch} {a0 : Array Value} (hs0 : zS0 d a0 g0) (hst : l.stackTraces = false) {G : zG} {B : Nat → Nat} {V : Nat → Nat → Int32} {nk ns ne ec : Nat} (hM : zM d B V nk ns ne ec G) {e9 : Nat} (he : e9 < 64) : zMet g0 d l y_Mo_proofNow c_Mo_proofNow 5 ((Option.some Jvm.ClassFile.FieldType.int)) 20 0 0 [.ref (B 0), .int (nI e9), .int (nI 2)] (G) (zI1 G) (zNo) := by
  have hnk : nk ≤ 8 := hM.2.1
  have hns : ns ≤ 6 := hM.2.2.1
  have hne : ne ≤ 64 := hM.2.2.2.1
  have hp2 : 2 ^ nk ≤ 256 := Nat.pow_le_pow_right (n := 2) (by decide) hnk
  refine z_entry hs0 hst (by decide) (Nat.le_of_ble_eq_true rfl) (fun p e s m args below meth c => ?_)
  refine z_iload_n 1 d_Mo_proofNow_0 rfl rfl ?_
  refine z_istore_n (L' := [(3, _), (0, _), (1, _), (2, _)]) d_Mo_proofNow_1 rfl (by decide) rfl ?_
  refine z_iconst (v := (nI 0)) d_Mo_proofNow_2 (by decide) ?_
  refine z_istore (L' := [(4, _), (3, _), (0, _), (1, _), (2, _)]) d_Mo_proofNow_3 (by decide) rfl ?_
  have key_5 : ∀ (n : Nat) (i : Nat) (kk : Nat), 2 - i < n → (i ≤ 2) → (kk < 64) → Z g0 d y_Mo_proofNow c_Mo_proofNow 5 ((Option.some Jvm.ClassFile.FieldType.int)) [] p l e (zR 20 0 0) s m args below meth c (vx_MQ below (zQc g0 d (zI1 G)) (zXc g0 d (zNo)) args s 0 0 (zA g0)) 0 0 (G) [(4, .int (nI i)), (3, .int (nI kk)), (0, .ref (B 0)), (1, .int (nI e9)), (2, .int (nI 2))] [] 5 := by
    intro n
    induction n with
    | zero => intro i kk h0; exact absurd h0 (Nat.not_lt_zero _)
    | succ n ih_5 =>
      intro i kk hm_5 hi hk
      refine z_iload 0 d_Mo_proofNow_5 rfl ?_
      refine z_iload_n 4 d_Mo_proofNow_7 rfl rfl ?_
      refine z_icmp_ge 21 d_Mo_proofNow_8 (by decide) (fun c_8 => ?_) (fun c_8 => ?_)
      · skip
        refine z_aload_n 2 d_Mo_proofNow_21 rfl rfl ?_
        refine z_iload_n 4 d_Mo_proofNow_22 rfl rfl ?_
        refine z_iload_n 1 d_Mo_proofNow_23 rfl rfl ?_
        refine z_iconst (v := 2) d_Mo_proofNow_24 (by decide) ?_
        refine z_irem d_Mo_proofNow_25 (by decide) ?_
        refine z_topv (v := nI (kk % 2)) (by rw [show (2 : Int32) = nI 2 from rfl]; exact pk_rem (by omega) (by decide) (by decide)) ?_
        refine z_if_ne 35 d_Mo_proofNow_26 (by decide) (fun c_26 => ?_) (fun c_26 => ?_)
        · skip
          have hk1 : 1 ≤ kk := Nat.pos_of_ne_zero fun e => c_26 (by subst e; decide)
          refine z_iload_n 1 d_Mo_proofNow_35 rfl rfl ?_
          refine z_iconst (v := 1) d_Mo_proofNow_36 (by decide) ?_
          refine z_isub d_Mo_proofNow_37 ?_
          refine z_topv (v := nI (kk - 1)) (nI_s1 hk1 (by omega)) ?_
          refine z_iconst (v := (-1)) d_Mo_proofNow_38 (by decide) ?_
          refine z_iconst (v := 0) d_Mo_proofNow_39 (by decide) ?_
          refine z_callVp0 ((m_Mo_node_2 hs0 hst hM (by omega) (-1) 0)) ym_Mo_node qM_Mo_218 qI_Mo_node qV_Mo_Mo_node zc_Mo hM.mo d_Mo_proofNow_40 rfl (Nat.le_of_ble_eq_true rfl) ⟨Nat.zero_le _, Nat.zero_le _⟩ ⟨Nat.le_of_ble_eq_true rfl, Nat.le_of_ble_eq_true rfl⟩ (fun r_40 G_40 hp_40 => ?_)
          obtain ⟨⟨v_40, rfl⟩, rfl⟩ := hp_40
          exact z_iret rfl (⟨⟨_, rfl⟩, rfl⟩) (by first | decide | omega) (by first | decide | omega) d_Mo_proofNow_43
        · skip
          refine z_iload_n 1 d_Mo_proofNow_29 rfl rfl ?_
          refine z_iconst (v := 1) d_Mo_proofNow_30 (by decide) ?_
          refine z_iadd d_Mo_proofNow_31 ?_
          refine z_topv (v := nI (kk + 1)) (nI_1 _) ?_
          refine z_goto 38 d_Mo_proofNow_32 (by decide) ?_
          refine z_iconst (v := (-1)) d_Mo_proofNow_38 (by decide) ?_
          refine z_iconst (v := 0) d_Mo_proofNow_39 (by decide) ?_
          refine z_callVp0 ((m_Mo_node_2 hs0 hst hM (by omega) (-1) 0)) ym_Mo_node qM_Mo_218 qI_Mo_node qV_Mo_Mo_node zc_Mo hM.mo d_Mo_proofNow_40 rfl (Nat.le_of_ble_eq_true rfl) ⟨Nat.zero_le _, Nat.zero_le _⟩ ⟨Nat.le_of_ble_eq_true rfl, Nat.le_of_ble_eq_true rfl⟩ (fun r_40 G_40 hp_40 => ?_)
          obtain ⟨⟨v_40, rfl⟩, rfl⟩ := hp_40
          exact z_iret rfl (⟨⟨_, rfl⟩, rfl⟩) (by first | decide | omega) (by first | decide | omega) d_Mo_proofNow_43
      · skip
        have hi6 : i < 2 := Nat.lt_of_not_le fun q => c_8 (nI_le (a := 2) (b := i) q (by omega))
        refine z_iload_n 1 d_Mo_proofNow_11 rfl rfl ?_
        refine z_iconst (v := 2) d_Mo_proofNow_12 (by decide) ?_
        refine z_idiv d_Mo_proofNow_13 (by decide) ?_
        refine z_topv (v := nI (kk / 2)) (by rw [show (2 : Int32) = nI 2 from rfl]; exact pk_div (by omega) (by decide) (by decide)) ?_
        refine z_istore_n (L' := [(3, _), (4, _), (0, _), (1, _), (2, _)]) d_Mo_proofNow_14 rfl (by decide) rfl ?_
        refine z_iinc (v := nI (i + 1)) (L' := [(4, _), (3, _), (0, _), (1, _), (2, _)]) 1 d_Mo_proofNow_15 rfl (nI_1 i) (by decide) rfl ?_
        refine z_goto 5 d_Mo_proofNow_18 (by decide) ?_
        exact ih_5 (i + 1) _ (by omega) (by omega) (by omega)
  exact key_5 3 0 _ (by omega) (by omega) he
set_option maxHeartbeats 4000000 in
set_option maxRecDepth 100000 in
theorem m_Mo_proofNow_3 {g0 : State} {d : zD} {l : Launch} {a0 : Array Value} (hs0 : zS0 d a0 g0) (hst : l.stackTraces = false) {G : zG} {B : Nat → Nat} {V : Nat → Nat → Int32} {nk ns ne ec : Nat} (hM : zM d B V nk ns ne ec G) {e9 : Nat} (he : e9 < 64) : zMet g0 d l y_Mo_proofNow c_Mo_proofNow 5 ((Option.some Jvm.ClassFile.FieldType.int)) 20 0 0 [.ref (B 0), .int (nI e9), .int (nI 3)] (G) (zI1 G) (zNo) := by
  have hnk : nk ≤ 8 := hM.2.1
  have hns : ns ≤ 6 := hM.2.2.1
  have hne : ne ≤ 64 := hM.2.2.2.1
  have hp2 : 2 ^ nk ≤ 256 := Nat.pow_le_pow_right (n := 2) (by decide) hnk
  refine z_entry hs0 hst (by decide) (Nat.le_of_ble_eq_true rfl) (fun p e s m args below meth c => ?_)
  refine z_iload_n 1 d_Mo_proofNow_0 rfl rfl ?_
  refine z_istore_n (L' := [(3, _), (0, _), (1, _), (2, _)]) d_Mo_proofNow_1 rfl (by decide) rfl ?_
  refine z_iconst (v := (nI 0)) d_Mo_proofNow_2 (by decide) ?_
  refine z_istore (L' := [(4, _), (3, _), (0, _), (1, _), (2, _)]) d_Mo_proofNow_3 (by decide) rfl ?_
  have key_5 : ∀ (n : Nat) (i : Nat) (kk : Nat), 3 - i < n → (i ≤ 3) → (kk < 64) → Z g0 d y_Mo_proofNow c_Mo_proofNow 5 ((Option.some Jvm.ClassFile.FieldType.int)) [] p l e (zR 20 0 0) s m args below meth c (vx_MQ below (zQc g0 d (zI1 G)) (zXc g0 d (zNo)) args s 0 0 (zA g0)) 0 0 (G) [(4, .int (nI i)), (3, .int (nI kk)), (0, .ref (B 0)), (1, .int (nI e9)), (2, .int (nI 3))] [] 5 := by
    intro n
    induction n with
    | zero => intro i kk h0; exact absurd h0 (Nat.not_lt_zero _)
    | succ n ih_5 =>
      intro i kk hm_5 hi hk
      refine z_iload 0 d_Mo_proofNow_5 rfl ?_
      refine z_iload_n 4 d_Mo_proofNow_7 rfl rfl ?_
      refine z_icmp_ge 21 d_Mo_proofNow_8 (by decide) (fun c_8 => ?_) (fun c_8 => ?_)
      · skip
        refine z_aload_n 2 d_Mo_proofNow_21 rfl rfl ?_
        refine z_iload_n 4 d_Mo_proofNow_22 rfl rfl ?_
        refine z_iload_n 1 d_Mo_proofNow_23 rfl rfl ?_
        refine z_iconst (v := 2) d_Mo_proofNow_24 (by decide) ?_
        refine z_irem d_Mo_proofNow_25 (by decide) ?_
        refine z_topv (v := nI (kk % 2)) (by rw [show (2 : Int32) = nI 2 from rfl]; exact pk_rem (by omega) (by decide) (by decide)) ?_
        refine z_if_ne 35 d_Mo_proofNow_26 (by decide) (fun c_26 => ?_) (fun c_26 => ?_)
        · skip
          have hk1 : 1 ≤ kk := Nat.pos_of_ne_zero fun e => c_26 (by subst e; decide)
          refine z_iload_n 1 d_Mo_proofNow_35 rfl rfl ?_
          refine z_iconst (v := 1) d_Mo_proofNow_36 (by decide) ?_
          refine z_isub d_Mo_proofNow_37 ?_
          refine z_topv (v := nI (kk - 1)) (nI_s1 hk1 (by omega)) ?_
          refine z_iconst (v := (-1)) d_Mo_proofNow_38 (by decide) ?_
          refine z_iconst (v := 0) d_Mo_proofNow_39 (by decide) ?_
          refine z_callVp0 ((m_Mo_node_3 hs0 hst hM (by omega) (-1) 0)) ym_Mo_node qM_Mo_218 qI_Mo_node qV_Mo_Mo_node zc_Mo hM.mo d_Mo_proofNow_40 rfl (Nat.le_of_ble_eq_true rfl) ⟨Nat.zero_le _, Nat.zero_le _⟩ ⟨Nat.le_of_ble_eq_true rfl, Nat.le_of_ble_eq_true rfl⟩ (fun r_40 G_40 hp_40 => ?_)
          obtain ⟨⟨v_40, rfl⟩, rfl⟩ := hp_40
          exact z_iret rfl (⟨⟨_, rfl⟩, rfl⟩) (by first | decide | omega) (by first | decide | omega) d_Mo_proofNow_43
        · skip
          refine z_iload_n 1 d_Mo_proofNow_29 rfl rfl ?_
          refine z_iconst (v := 1) d_Mo_proofNow_30 (by decide) ?_
          refine z_iadd d_Mo_proofNow_31 ?_
          refine z_topv (v := nI (kk + 1)) (nI_1 _) ?_
          refine z_goto 38 d_Mo_proofNow_32 (by decide) ?_
          refine z_iconst (v := (-1)) d_Mo_proofNow_38 (by decide) ?_
          refine z_iconst (v := 0) d_Mo_proofNow_39 (by decide) ?_
          refine z_callVp0 ((m_Mo_node_3 hs0 hst hM (by omega) (-1) 0)) ym_Mo_node qM_Mo_218 qI_Mo_node qV_Mo_Mo_node zc_Mo hM.mo d_Mo_proofNow_40 rfl (Nat.le_of_ble_eq_true rfl) ⟨Nat.zero_le _, Nat.zero_le _⟩ ⟨Nat.le_of_ble_eq_true rfl, Nat.le_of_ble_eq_true rfl⟩ (fun r_40 G_40 hp_40 => ?_)
          obtain ⟨⟨v_40, rfl⟩, rfl⟩ := hp_40
          exact z_iret rfl (⟨⟨_, rfl⟩, rfl⟩) (by first | decide | omega) (by first | decide | omega) d_Mo_proofNow_43
      · skip
        have hi6 : i < 3 := Nat.lt_of_not_le fun q => c_8 (nI_le (a := 3) (b := i) q (by omega))
        refine z_iload_n 1 d_Mo_proofNow_11 rfl rfl ?_
        refine z_iconst (v := 2) d_Mo_proofNow_12 (by decide) ?_
        refine z_idiv d_Mo_proofNow_13 (by decide) ?_
        refine z_topv (v := nI (kk / 2)) (by rw [show (2 : Int32) = nI 2 from rfl]; exact pk_div (by omega) (by decide) (by decide)) ?_
        refine z_istore_n (L' := [(3, _), (4, _), (0, _), (1, _), (2, _)]) d_Mo_proofNow_14 rfl (by decide) rfl ?_
        refine z_iinc (v := nI (i + 1)) (L' := [(4, _), (3, _), (0, _), (1, _), (2, _)]) 1 d_Mo_proofNow_15 rfl (nI_1 i) (by decide) rfl ?_
        refine z_goto 5 d_Mo_proofNow_18 (by decide) ?_
        exact ih_5 (i + 1) _ (by omega) (by omega) (by omega)
  exact key_5 4 0 _ (by omega) (by omega) he
set_option maxHeartbeats 4000000 in
set_option maxRecDepth 100000 in
theorem m_Mo_proofNow_4 {g0 : State} {d : zD} {l : Launch} {a0 : Array Value} (hs0 : zS0 d a0 g0) (hst : l.stackTraces = false) {G : zG} {B : Nat → Nat} {V : Nat → Nat → Int32} {nk ns ne ec : Nat} (hM : zM d B V nk ns ne ec G) {e9 : Nat} (he : e9 < 64) : zMet g0 d l y_Mo_proofNow c_Mo_proofNow 5 ((Option.some Jvm.ClassFile.FieldType.int)) 20 0 0 [.ref (B 0), .int (nI e9), .int (nI 4)] (G) (zI1 G) (zNo) := by
  have hnk : nk ≤ 8 := hM.2.1
  have hns : ns ≤ 6 := hM.2.2.1
  have hne : ne ≤ 64 := hM.2.2.2.1
  have hp2 : 2 ^ nk ≤ 256 := Nat.pow_le_pow_right (n := 2) (by decide) hnk
  refine z_entry hs0 hst (by decide) (Nat.le_of_ble_eq_true rfl) (fun p e s m args below meth c => ?_)
  refine z_iload_n 1 d_Mo_proofNow_0 rfl rfl ?_
  refine z_istore_n (L' := [(3, _), (0, _), (1, _), (2, _)]) d_Mo_proofNow_1 rfl (by decide) rfl ?_
  refine z_iconst (v := (nI 0)) d_Mo_proofNow_2 (by decide) ?_
  refine z_istore (L' := [(4, _), (3, _), (0, _), (1, _), (2, _)]) d_Mo_proofNow_3 (by decide) rfl ?_
  have key_5 : ∀ (n : Nat) (i : Nat) (kk : Nat), 4 - i < n → (i ≤ 4) → (kk < 64) → Z g0 d y_Mo_proofNow c_Mo_proofNow 5 ((Option.some Jvm.ClassFile.FieldType.int)) [] p l e (zR 20 0 0) s m args below meth c (vx_MQ below (zQc g0 d (zI1 G)) (zXc g0 d (zNo)) args s 0 0 (zA g0)) 0 0 (G) [(4, .int (nI i)), (3, .int (nI kk)), (0, .ref (B 0)), (1, .int (nI e9)), (2, .int (nI 4))] [] 5 := by
    intro n
    induction n with
    | zero => intro i kk h0; exact absurd h0 (Nat.not_lt_zero _)
    | succ n ih_5 =>
      intro i kk hm_5 hi hk
      refine z_iload 0 d_Mo_proofNow_5 rfl ?_
      refine z_iload_n 4 d_Mo_proofNow_7 rfl rfl ?_
      refine z_icmp_ge 21 d_Mo_proofNow_8 (by decide) (fun c_8 => ?_) (fun c_8 => ?_)
      · skip
        refine z_aload_n 2 d_Mo_proofNow_21 rfl rfl ?_
        refine z_iload_n 4 d_Mo_proofNow_22 rfl rfl ?_
        refine z_iload_n 1 d_Mo_proofNow_23 rfl rfl ?_
        refine z_iconst (v := 2) d_Mo_proofNow_24 (by decide) ?_
        refine z_irem d_Mo_proofNow_25 (by decide) ?_
        refine z_topv (v := nI (kk % 2)) (by rw [show (2 : Int32) = nI 2 from rfl]; exact pk_rem (by omega) (by decide) (by decide)) ?_
        refine z_if_ne 35 d_Mo_proofNow_26 (by decide) (fun c_26 => ?_) (fun c_26 => ?_)
        · skip
          have hk1 : 1 ≤ kk := Nat.pos_of_ne_zero fun e => c_26 (by subst e; decide)
          refine z_iload_n 1 d_Mo_proofNow_35 rfl rfl ?_
          refine z_iconst (v := 1) d_Mo_proofNow_36 (by decide) ?_
          refine z_isub d_Mo_proofNow_37 ?_
          refine z_topv (v := nI (kk - 1)) (nI_s1 hk1 (by omega)) ?_
          refine z_iconst (v := (-1)) d_Mo_proofNow_38 (by decide) ?_
          refine z_iconst (v := 0) d_Mo_proofNow_39 (by decide) ?_
          refine z_callVp0 ((m_Mo_node_4 hs0 hst hM (by omega) (-1) 0)) ym_Mo_node qM_Mo_218 qI_Mo_node qV_Mo_Mo_node zc_Mo hM.mo d_Mo_proofNow_40 rfl (Nat.le_of_ble_eq_true rfl) ⟨Nat.zero_le _, Nat.zero_le _⟩ ⟨Nat.le_of_ble_eq_true rfl, Nat.le_of_ble_eq_true rfl⟩ (fun r_40 G_40 hp_40 => ?_)
          obtain ⟨⟨v_40, rfl⟩, rfl⟩ := hp_40
          exact z_iret rfl (⟨⟨_, rfl⟩, rfl⟩) (by first | decide | omega) (by first | decide | omega) d_Mo_proofNow_43
        · skip
          refine z_iload_n 1 d_Mo_proofNow_29 rfl rfl ?_
          refine z_iconst (v := 1) d_Mo_proofNow_30 (by decide) ?_
          refine z_iadd d_Mo_proofNow_31 ?_
          refine z_topv (v := nI (kk + 1)) (nI_1 _) ?_
          refine z_goto 38 d_Mo_proofNow_32 (by decide) ?_
          refine z_iconst (v := (-1)) d_Mo_proofNow_38 (by decide) ?_
          refine z_iconst (v := 0) d_Mo_proofNow_39 (by decide) ?_
          refine z_callVp0 ((m_Mo_node_4 hs0 hst hM (by omega) (-1) 0)) ym_Mo_node qM_Mo_218 qI_Mo_node qV_Mo_Mo_node zc_Mo hM.mo d_Mo_proofNow_40 rfl (Nat.le_of_ble_eq_true rfl) ⟨Nat.zero_le _, Nat.zero_le _⟩ ⟨Nat.le_of_ble_eq_true rfl, Nat.le_of_ble_eq_true rfl⟩ (fun r_40 G_40 hp_40 => ?_)
          obtain ⟨⟨v_40, rfl⟩, rfl⟩ := hp_40
          exact z_iret rfl (⟨⟨_, rfl⟩, rfl⟩) (by first | decide | omega) (by first | decide | omega) d_Mo_proofNow_43
      · skip
        have hi6 : i < 4 := Nat.lt_of_not_le fun q => c_8 (nI_le (a := 4) (b := i) q (by omega))
        refine z_iload_n 1 d_Mo_proofNow_11 rfl rfl ?_
        refine z_iconst (v := 2) d_Mo_proofNow_12 (by decide) ?_
        refine z_idiv d_Mo_proofNow_13 (by decide) ?_
        refine z_topv (v := nI (kk / 2)) (by rw [show (2 : Int32) = nI 2 from rfl]; exact pk_div (by omega) (by decide) (by decide)) ?_
        refine z_istore_n (L' := [(3, _), (4, _), (0, _), (1, _), (2, _)]) d_Mo_proofNow_14 rfl (by decide) rfl ?_
        refine z_iinc (v := nI (i + 1)) (L' := [(4, _), (3, _), (0, _), (1, _), (2, _)]) 1 d_Mo_proofNow_15 rfl (nI_1 i) (by decide) rfl ?_
        refine z_goto 5 d_Mo_proofNow_18 (by decide) ?_
        exact ih_5 (i + 1) _ (by omega) (by omega) (by omega)
  exact key_5 5 0 _ (by omega) (by omega) he
set_option maxHeartbeats 4000000 in
set_option maxRecDepth 100000 in
theorem m_Mo_proofNow_5 {g0 : State} {d : zD} {l : Launch} {a0 : Array Value} (hs0 : zS0 d a0 g0) (hst : l.stackTraces = false) {G : zG} {B : Nat → Nat} {V : Nat → Nat → Int32} {nk ns ne ec : Nat} (hM : zM d B V nk ns ne ec G) {e9 : Nat} (he : e9 < 64) : zMet g0 d l y_Mo_proofNow c_Mo_proofNow 5 ((Option.some Jvm.ClassFile.FieldType.int)) 20 0 0 [.ref (B 0), .int (nI e9), .int (nI 5)] (G) (zI1 G) (zNo) := by
  have hnk : nk ≤ 8 := hM.2.1
  have hns : ns ≤ 6 := hM.2.2.1
  have hne : ne ≤ 64 := hM.2.2.2.1
  have hp2 : 2 ^ nk ≤ 256 := Nat.pow_le_pow_right (n := 2) (by decide) hnk
  refine z_entry hs0 hst (by decide) (Nat.le_of_ble_eq_true rfl) (fun p e s m args below meth c => ?_)
  refine z_iload_n 1 d_Mo_proofNow_0 rfl rfl ?_
  refine z_istore_n (L' := [(3, _), (0, _), (1, _), (2, _)]) d_Mo_proofNow_1 rfl (by decide) rfl ?_
  refine z_iconst (v := (nI 0)) d_Mo_proofNow_2 (by decide) ?_
  refine z_istore (L' := [(4, _), (3, _), (0, _), (1, _), (2, _)]) d_Mo_proofNow_3 (by decide) rfl ?_
  have key_5 : ∀ (n : Nat) (i : Nat) (kk : Nat), 5 - i < n → (i ≤ 5) → (kk < 64) → Z g0 d y_Mo_proofNow c_Mo_proofNow 5 ((Option.some Jvm.ClassFile.FieldType.int)) [] p l e (zR 20 0 0) s m args below meth c (vx_MQ below (zQc g0 d (zI1 G)) (zXc g0 d (zNo)) args s 0 0 (zA g0)) 0 0 (G) [(4, .int (nI i)), (3, .int (nI kk)), (0, .ref (B 0)), (1, .int (nI e9)), (2, .int (nI 5))] [] 5 := by
    intro n
    induction n with
    | zero => intro i kk h0; exact absurd h0 (Nat.not_lt_zero _)
    | succ n ih_5 =>
      intro i kk hm_5 hi hk
      refine z_iload 0 d_Mo_proofNow_5 rfl ?_
      refine z_iload_n 4 d_Mo_proofNow_7 rfl rfl ?_
      refine z_icmp_ge 21 d_Mo_proofNow_8 (by decide) (fun c_8 => ?_) (fun c_8 => ?_)
      · skip
        refine z_aload_n 2 d_Mo_proofNow_21 rfl rfl ?_
        refine z_iload_n 4 d_Mo_proofNow_22 rfl rfl ?_
        refine z_iload_n 1 d_Mo_proofNow_23 rfl rfl ?_
        refine z_iconst (v := 2) d_Mo_proofNow_24 (by decide) ?_
        refine z_irem d_Mo_proofNow_25 (by decide) ?_
        refine z_topv (v := nI (kk % 2)) (by rw [show (2 : Int32) = nI 2 from rfl]; exact pk_rem (by omega) (by decide) (by decide)) ?_
        refine z_if_ne 35 d_Mo_proofNow_26 (by decide) (fun c_26 => ?_) (fun c_26 => ?_)
        · skip
          have hk1 : 1 ≤ kk := Nat.pos_of_ne_zero fun e => c_26 (by subst e; decide)
          refine z_iload_n 1 d_Mo_proofNow_35 rfl rfl ?_
          refine z_iconst (v := 1) d_Mo_proofNow_36 (by decide) ?_
          refine z_isub d_Mo_proofNow_37 ?_
          refine z_topv (v := nI (kk - 1)) (nI_s1 hk1 (by omega)) ?_
          refine z_iconst (v := (-1)) d_Mo_proofNow_38 (by decide) ?_
          refine z_iconst (v := 0) d_Mo_proofNow_39 (by decide) ?_
          refine z_callVp0 ((m_Mo_node_5 hs0 hst hM (by omega) (-1) 0)) ym_Mo_node qM_Mo_218 qI_Mo_node qV_Mo_Mo_node zc_Mo hM.mo d_Mo_proofNow_40 rfl (Nat.le_of_ble_eq_true rfl) ⟨Nat.zero_le _, Nat.zero_le _⟩ ⟨Nat.le_of_ble_eq_true rfl, Nat.le_of_ble_eq_true rfl⟩ (fun r_40 G_40 hp_40 => ?_)
          obtain ⟨⟨v_40, rfl⟩, rfl⟩ := hp_40
          exact z_iret rfl (⟨⟨_, rfl⟩, rfl⟩) (by first | decide | omega) (by first | decide | omega) d_Mo_proofNow_43
        · skip
          refine z_iload_n 1 d_Mo_proofNow_29 rfl rfl ?_
          refine z_iconst (v := 1) d_Mo_proofNow_30 (by decide) ?_
          refine z_iadd d_Mo_proofNow_31 ?_
          refine z_topv (v := nI (kk + 1)) (nI_1 _) ?_
          refine z_goto 38 d_Mo_proofNow_32 (by decide) ?_
          refine z_iconst (v := (-1)) d_Mo_proofNow_38 (by decide) ?_
          refine z_iconst (v := 0) d_Mo_proofNow_39 (by decide) ?_
          refine z_callVp0 ((m_Mo_node_5 hs0 hst hM (by omega) (-1) 0)) ym_Mo_node qM_Mo_218 qI_Mo_node qV_Mo_Mo_node zc_Mo hM.mo d_Mo_proofNow_40 rfl (Nat.le_of_ble_eq_true rfl) ⟨Nat.zero_le _, Nat.zero_le _⟩ ⟨Nat.le_of_ble_eq_true rfl, Nat.le_of_ble_eq_true rfl⟩ (fun r_40 G_40 hp_40 => ?_)
          obtain ⟨⟨v_40, rfl⟩, rfl⟩ := hp_40
          exact z_iret rfl (⟨⟨_, rfl⟩, rfl⟩) (by first | decide | omega) (by first | decide | omega) d_Mo_proofNow_43
      · skip
        have hi6 : i < 5 := Nat.lt_of_not_le fun q => c_8 (nI_le (a := 5) (b := i) q (by omega))
        refine z_iload_n 1 d_Mo_proofNow_11 rfl rfl ?_
        refine z_iconst (v := 2) d_Mo_proofNow_12 (by decide) ?_
        refine z_idiv d_Mo_proofNow_13 (by decide) ?_
        refine z_topv (v := nI (kk / 2)) (by rw [show (2 : Int32) = nI 2 from rfl]; exact pk_div (by omega) (by decide) (by decide)) ?_
        refine z_istore_n (L' := [(3, _), (4, _), (0, _), (1, _), (2, _)]) d_Mo_proofNow_14 rfl (by decide) rfl ?_
        refine z_iinc (v := nI (i + 1)) (L' := [(4, _), (3, _), (0, _), (1, _), (2, _)]) 1 d_Mo_proofNow_15 rfl (nI_1 i) (by decide) rfl ?_
        refine z_goto 5 d_Mo_proofNow_18 (by decide) ?_
        exact ih_5 (i + 1) _ (by omega) (by omega) (by omega)
  exact key_5 6 0 _ (by omega) (by omega) he

theorem m_Mo_proofNow {g0 : State} {d : zD} {l : Launch} {a0 : Array Value} (hs0 : zS0 d a0 g0) (hst : l.stackTraces = false) {G : zG} {B : Nat → Nat} {V : Nat → Nat → Int32} {nk ns ne ec : Nat} (hM : zM d B V nk ns ne ec G) {e9 r : Nat} (he : e9 < 64) (hr : r ≤ 5) : zMet g0 d l y_Mo_proofNow c_Mo_proofNow 5 (Option.some Jvm.ClassFile.FieldType.int) 20 0 0 [.ref (B 0), .int (nI e9), .int (nI r)] G (zI1 G) zNo := by
  have : r = 0 ∨ r = 1 ∨ r = 2 ∨ r = 3 ∨ r = 4 ∨ r = 5 := by omega
  rcases this with rfl | rfl | rfl | rfl | rfl | rfl
  · exact m_Mo_proofNow_0 hs0 hst hM he
  · exact m_Mo_proofNow_1 hs0 hst hM he
  · exact m_Mo_proofNow_2 hs0 hst hM he
  · exact m_Mo_proofNow_3 hs0 hst hM he
  · exact m_Mo_proofNow_4 hs0 hst hM he
  · exact m_Mo_proofNow_5 hs0 hst hM he

