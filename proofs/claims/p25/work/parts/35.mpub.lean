
/-- a public method's end: what was thrown isn't told -/
def mTp (d : zD) (B : Nat → Nat) (nk ns ne ec : Nat) (V : Nat → Nat → Int32) (G : zG) (R : Option Value → Prop) : Option Value → zG → Prop := fun r G1 => R r ∧ ∃ V', zM d B V' nk ns ne ec G1 ∧ zKn V V' ∧ mFr B nk ns ne G G1
def zrW : Option Value → Prop := fun r => ∃ v : UInt64, r = some (.double v)
theorem zin_l {x : Int32} {n : Nat} (h : zin x 0 (nI n) = true) (hn : n < 2 ^ 31) : ∃ k, k < n + 1 ∧ x = nI k := by
  simp only [zin, Bool.and_eq_true, decide_eq_true_eq] at h
  obtain ⟨k, hk, rfl⟩ := nI_of (x := x) (fun q => by have := h.1; simp only [Int32.lt_iff_toInt_lt, Int32.le_iff_toInt_le] at *; omega)
  exact ⟨k, Nat.lt_succ_of_le ((nI_leI hk hn).mp h.2), rfl⟩
theorem zin_n {x : Int32} {n : Nat} (h : zin x 0 (nI n - 1) = true) (hn : n < 2 ^ 31) : ∃ k, k < n ∧ x = nI k := by
  rcases Nat.eq_zero_or_pos n with h0 | h0
  · subst h0
    simp only [zin, Bool.and_eq_true, decide_eq_true_eq, Int32.le_iff_toInt_le] at h
    have h1 : (nI 0 - 1).toInt = -1 := by decide
    have h2 : (0 : Int32).toInt = 0 := by decide
    omega
  · rw [nI_s1 h0 hn] at h
    obtain ⟨k, hk, e⟩ := zin_l h (by omega)
    exact ⟨k, by omega, e⟩
theorem zM.k2 {d : zD} {B : Nat → Nat} {V : Nat → Nat → Int32} {nk ns ne ec h a : Nat} {G G1 : zG} (hM : zM d B V nk ns ne ec G) (hk : zK2 h a G G1) (h1 : ∀ r, mlive nk ns ne r → B r ≠ h) (h2 : ∀ r, mlive nk ns ne r → B r ≠ a) : zM d B V nk ns ne ec G1 := ⟨⟨hM.1.1, fun r hr => hk _ _ (hM.1.2 r hr) (h1 r hr) (h2 r hr)⟩, hM.2⟩
section ZLS
variable {g0 : State} {d : zD} {y : MethodName} {cc : ByteArray} {nL : Nat} {ret : Option FieldType} {tb : List ExceptionTableEntry} {p : Program} {l : Launch} {e : Env} {R : Room} {s : State} {m : MethodId} {args : Array Value} {below : List Frame} {meth : Method} {c : Code} {Q : State → Prop} {cells slots : Nat} {G : zG} {L : List (Nat × Value)} {st : List Value} {pc : Nat}
theorem z_ldcS {idx : Nat} {tx : String} (hq : Cond.stringRef y.cls idx tx ∈ lw_tbl) (hd : decode cc pc = .ok (.ldc idx, 2)) (k : ∀ q, Z g0 d y cc nL ret tb p l e R s m args below meth c Q cells slots G L (.ref q :: st) (pc + 2)) : Z g0 d y cc nL ret tb p l e R s m args below meth c Q cells slots G L st pc := by
  intro hc H locs ls hP hS hl
  obtain ⟨⟨a0, h0, -, -, -, hU, hN, hT, -⟩, -⟩ := id hc
  obtain ⟨sa, hsa⟩ := hT _ _ _ hq
  exact va_ldcS hc.x hc.b hc.own (vk_R.warm hc.warm hsa) hd (k sa hc H locs ls hP hS hl)
end ZLS

theorem d_Mo_ofKeeper_0 : decode c_Mo_ofKeeper 0 = .ok (.aload_n 0, 1) := by decide +kernel
theorem d_Mo_ofKeeper_1 : decode c_Mo_ofKeeper 1 = .ok (.iconst 0, 1) := by decide +kernel
theorem d_Mo_ofKeeper_2 : decode c_Mo_ofKeeper 2 = .ok (.putfield 36, 3) := by decide +kernel
theorem d_Mo_ofKeeper_5 : decode c_Mo_ofKeeper 5 = .ok (.aload_n 0, 1) := by decide +kernel
theorem d_Mo_ofKeeper_6 : decode c_Mo_ofKeeper 6 = .ok (.iload_n 1, 1) := by decide +kernel
theorem d_Mo_ofKeeper_7 : decode c_Mo_ofKeeper 7 = .ok (.invokevirtual 125, 3) := by decide +kernel
theorem d_Mo_ofKeeper_10 : decode c_Mo_ofKeeper 10 = .ok (.ifCond .ne 9, 3) := by decide +kernel
theorem d_Mo_ofKeeper_13 : decode c_Mo_ofKeeper 13 = .ok (.aload_n 0, 1) := by decide +kernel
theorem d_Mo_ofKeeper_14 : decode c_Mo_ofKeeper 14 = .ok (.iconst 1, 1) := by decide +kernel
theorem d_Mo_ofKeeper_15 : decode c_Mo_ofKeeper 15 = .ok (.invokevirtual 119, 3) := by decide +kernel
theorem d_Mo_ofKeeper_18 : decode c_Mo_ofKeeper 18 = .ok (.ireturn, 1) := by decide +kernel
theorem d_Mo_ofKeeper_19 : decode c_Mo_ofKeeper 19 = .ok (.iload_n 2, 1) := by decide +kernel
theorem d_Mo_ofKeeper_20 : decode c_Mo_ofKeeper 20 = .ok (.iconst 0, 1) := by decide +kernel
theorem d_Mo_ofKeeper_21 : decode c_Mo_ofKeeper 21 = .ok (.bipush 6, 2) := by decide +kernel
theorem d_Mo_ofKeeper_23 : decode c_Mo_ofKeeper 23 = .ok (.invokestatic 115, 3) := by decide +kernel
theorem d_Mo_ofKeeper_26 : decode c_Mo_ofKeeper 26 = .ok (.ifCond .ne 9, 3) := by decide +kernel
theorem d_Mo_ofKeeper_29 : decode c_Mo_ofKeeper 29 = .ok (.aload_n 0, 1) := by decide +kernel
theorem d_Mo_ofKeeper_30 : decode c_Mo_ofKeeper 30 = .ok (.iconst 2, 1) := by decide +kernel
theorem d_Mo_ofKeeper_31 : decode c_Mo_ofKeeper 31 = .ok (.invokevirtual 119, 3) := by decide +kernel
theorem d_Mo_ofKeeper_34 : decode c_Mo_ofKeeper 34 = .ok (.ireturn, 1) := by decide +kernel
theorem d_Mo_ofKeeper_35 : decode c_Mo_ofKeeper 35 = .ok (.aload_n 0, 1) := by decide +kernel
theorem d_Mo_ofKeeper_36 : decode c_Mo_ofKeeper 36 = .ok (.iload_n 1, 1) := by decide +kernel
theorem d_Mo_ofKeeper_37 : decode c_Mo_ofKeeper 37 = .ok (.iload_n 2, 1) := by decide +kernel
theorem d_Mo_ofKeeper_38 : decode c_Mo_ofKeeper 38 = .ok (.invokevirtual 199, 3) := by decide +kernel
theorem d_Mo_ofKeeper_41 : decode c_Mo_ofKeeper 41 = .ok (.ireturn, 1) := by decide +kernel
set_option maxHeartbeats 4000000 in
set_option maxRecDepth 100000 in
theorem m_Mo_ofKeeper {g0 : State} {d : zD} {l : Launch} {a0 : Array Value} (hs0 : zS0 d a0 g0) (hst : l.stackTraces = false) {G : zG} {B : Nat → Nat} {V : Nat → Nat → Int32} {nk ns ne ec : Nat} (hM : zM d B V nk ns ne ec G) (x w : Int32) : zMet g0 d l y_Mo_ofKeeper c_Mo_ofKeeper 3 ((Option.some Jvm.ClassFile.FieldType.int)) 12 1 7 [.ref (B 0), .int x, .int w] (G) (mTp d B nk ns ne ec V G zrI) (zNo) := by
  have hnk : nk ≤ 8 := hM.2.1
  have hns : ns ≤ 6 := hM.2.2.1
  have hne : ne ≤ 64 := hM.2.2.2.1
  have hp2 : 2 ^ nk ≤ 256 := Nat.pow_le_pow_right (n := 2) (by decide) hnk
  refine z_entry hs0 hst (by decide) (Nat.le_of_ble_eq_true rfl) (fun p e s m args below meth c => ?_)
  refine z_aload_n 0 d_Mo_ofKeeper_0 rfl rfl ?_
  refine z_iconst (v := 0) d_Mo_ofKeeper_1 (by decide) ?_
  refine z_put zc_Mo 0 (by decide) qF_Mo_36 hM.mo rfl rfl rfl (Nat.le_of_ble_eq_true rfl) d_Mo_ofKeeper_2 ?_
  obtain ⟨V1, hM1, hK1, hF1, hT1⟩ := hM.putT 0
  refine z_aload_n 0 d_Mo_ofKeeper_5 rfl rfl ?_
  refine z_iload_n 1 d_Mo_ofKeeper_6 rfl rfl ?_
  refine z_callV0 (m_Mo_isKeeper hs0 hst hM1 x) ym_Mo_isKeeper qM_Mo_125 qI_Mo_isKeeper qV_Mo_Mo_isKeeper zc_Mo hM1.mo d_Mo_ofKeeper_7 rfl (Nat.le_of_ble_eq_true rfl) ⟨by decide, by decide⟩ ⟨Nat.le_of_ble_eq_true rfl, Nat.le_of_ble_eq_true rfl⟩ ?_
  refine z_if_ne 19 d_Mo_ofKeeper_10 (by decide) (fun c_10 => ?_) (fun c_10 => ?_)
  · skip
    obtain ⟨ki, hki, rfl⟩ := zin_n ((zb_n0 _).mp c_10) (by omega)
    refine z_iload_n 2 d_Mo_ofKeeper_19 rfl rfl ?_
    refine z_iconst (v := 0) d_Mo_ofKeeper_20 (by decide) ?_
    refine z_bipush (v := (nI 6)) d_Mo_ofKeeper_21 (by decide) ?_
    refine z_callS0 (m_Mo_in hs0 hst w 0 _) ym_Mo_in qM_Mo_115 qS_Mo_in d_Mo_ofKeeper_23 rfl (Nat.le_of_ble_eq_true rfl) ⟨by decide, by decide⟩ ⟨Nat.le_of_ble_eq_true rfl, Nat.le_of_ble_eq_true rfl⟩ ?_
    refine z_if_ne 35 d_Mo_ofKeeper_26 (by decide) (fun c_26 => ?_) (fun c_26 => ?_)
    · skip
      obtain ⟨wi, hwi, rfl⟩ := zin_l ((zb_n0 _).mp c_26) (by decide)
      refine z_aload_n 0 d_Mo_ofKeeper_35 rfl rfl ?_
      refine z_iload_n 1 d_Mo_ofKeeper_36 rfl rfl ?_
      refine z_iload_n 2 d_Mo_ofKeeper_37 rfl rfl ?_
      refine z_callVp1 (m_Mo_keeperNow hs0 hst hM1 hki hwi) ym_Mo_keeperNow qM_Mo_199 qI_Mo_keeperNow qV_Mo_Mo_keeperNow zc_Mo hM1.mo d_Mo_ofKeeper_38 rfl (Nat.le_of_ble_eq_true rfl) ⟨by decide, by decide⟩ ⟨Nat.le_of_ble_eq_true rfl, Nat.le_of_ble_eq_true rfl⟩ (fun r_38 G_38 hp_38 => ?_)
      obtain ⟨⟨v_38, rfl⟩, V2, hM2, hK2, hF2⟩ := hp_38
      exact z_iret rfl (⟨⟨_, rfl⟩, V2, hM2, hK1.tr hK2.m.n, hF1.tr hF2⟩) (by first | decide | omega) (by first | decide | omega) d_Mo_ofKeeper_41
    · skip
      refine z_aload_n 0 d_Mo_ofKeeper_29 rfl rfl ?_
      refine z_iconst (v := 2) d_Mo_ofKeeper_30 (by decide) ?_
      refine z_callV0 (m_Mo_no hs0 hst hM1.mo 2) ym_Mo_no qM_Mo_119 qI_Mo_no qV_Mo_Mo_no zc_Mo hM1.mo d_Mo_ofKeeper_31 rfl (Nat.le_of_ble_eq_true rfl) ⟨by decide, by decide⟩ ⟨Nat.le_of_ble_eq_true rfl, Nat.le_of_ble_eq_true rfl⟩ ?_
      obtain ⟨V9, hM9, hK9, hF9, hT9⟩ := hM1.putT 2
      exact z_iret rfl (⟨⟨_, rfl⟩, V9, hM9, hK1.tr hK9, hF1.tr hF9⟩) (by first | decide | omega) (by first | decide | omega) d_Mo_ofKeeper_34
  · skip
    refine z_aload_n 0 d_Mo_ofKeeper_13 rfl rfl ?_
    refine z_iconst (v := 1) d_Mo_ofKeeper_14 (by decide) ?_
    refine z_callV0 (m_Mo_no hs0 hst hM1.mo 1) ym_Mo_no qM_Mo_119 qI_Mo_no qV_Mo_Mo_no zc_Mo hM1.mo d_Mo_ofKeeper_15 rfl (Nat.le_of_ble_eq_true rfl) ⟨by decide, by decide⟩ ⟨Nat.le_of_ble_eq_true rfl, Nat.le_of_ble_eq_true rfl⟩ ?_
    obtain ⟨V9, hM9, hK9, hF9, hT9⟩ := hM1.putT 1
    exact z_iret rfl (⟨⟨_, rfl⟩, V9, hM9, hK1.tr hK9, hF1.tr hF9⟩) (by first | decide | omega) (by first | decide | omega) d_Mo_ofKeeper_18
theorem d_Mo_ofSecret_0 : decode c_Mo_ofSecret 0 = .ok (.aload_n 0, 1) := by decide +kernel
theorem d_Mo_ofSecret_1 : decode c_Mo_ofSecret 1 = .ok (.iconst 0, 1) := by decide +kernel
theorem d_Mo_ofSecret_2 : decode c_Mo_ofSecret 2 = .ok (.putfield 36, 3) := by decide +kernel
theorem d_Mo_ofSecret_5 : decode c_Mo_ofSecret 5 = .ok (.aload_n 0, 1) := by decide +kernel
theorem d_Mo_ofSecret_6 : decode c_Mo_ofSecret 6 = .ok (.iload_n 1, 1) := by decide +kernel
theorem d_Mo_ofSecret_7 : decode c_Mo_ofSecret 7 = .ok (.invokevirtual 147, 3) := by decide +kernel
theorem d_Mo_ofSecret_10 : decode c_Mo_ofSecret 10 = .ok (.ifCond .ne 9, 3) := by decide +kernel
theorem d_Mo_ofSecret_13 : decode c_Mo_ofSecret 13 = .ok (.aload_n 0, 1) := by decide +kernel
theorem d_Mo_ofSecret_14 : decode c_Mo_ofSecret 14 = .ok (.iconst 1, 1) := by decide +kernel
theorem d_Mo_ofSecret_15 : decode c_Mo_ofSecret 15 = .ok (.invokevirtual 119, 3) := by decide +kernel
theorem d_Mo_ofSecret_18 : decode c_Mo_ofSecret 18 = .ok (.ireturn, 1) := by decide +kernel
theorem d_Mo_ofSecret_19 : decode c_Mo_ofSecret 19 = .ok (.iload_n 2, 1) := by decide +kernel
theorem d_Mo_ofSecret_20 : decode c_Mo_ofSecret 20 = .ok (.iconst 0, 1) := by decide +kernel
theorem d_Mo_ofSecret_21 : decode c_Mo_ofSecret 21 = .ok (.bipush 8, 2) := by decide +kernel
theorem d_Mo_ofSecret_23 : decode c_Mo_ofSecret 23 = .ok (.invokestatic 115, 3) := by decide +kernel
theorem d_Mo_ofSecret_26 : decode c_Mo_ofSecret 26 = .ok (.ifCond .ne 9, 3) := by decide +kernel
theorem d_Mo_ofSecret_29 : decode c_Mo_ofSecret 29 = .ok (.aload_n 0, 1) := by decide +kernel
theorem d_Mo_ofSecret_30 : decode c_Mo_ofSecret 30 = .ok (.iconst 2, 1) := by decide +kernel
theorem d_Mo_ofSecret_31 : decode c_Mo_ofSecret 31 = .ok (.invokevirtual 119, 3) := by decide +kernel
theorem d_Mo_ofSecret_34 : decode c_Mo_ofSecret 34 = .ok (.ireturn, 1) := by decide +kernel
theorem d_Mo_ofSecret_35 : decode c_Mo_ofSecret 35 = .ok (.aload_n 0, 1) := by decide +kernel
theorem d_Mo_ofSecret_36 : decode c_Mo_ofSecret 36 = .ok (.iload_n 1, 1) := by decide +kernel
theorem d_Mo_ofSecret_37 : decode c_Mo_ofSecret 37 = .ok (.iload_n 2, 1) := by decide +kernel
theorem d_Mo_ofSecret_38 : decode c_Mo_ofSecret 38 = .ok (.invokevirtual 210, 3) := by decide +kernel
theorem d_Mo_ofSecret_41 : decode c_Mo_ofSecret 41 = .ok (.ireturn, 1) := by decide +kernel
set_option maxHeartbeats 4000000 in
set_option maxRecDepth 100000 in
theorem m_Mo_ofSecret {g0 : State} {d : zD} {l : Launch} {a0 : Array Value} (hs0 : zS0 d a0 g0) (hst : l.stackTraces = false) {G : zG} {B : Nat → Nat} {V : Nat → Nat → Int32} {nk ns ne ec : Nat} (hM : zM d B V nk ns ne ec G) (x w : Int32) : zMet g0 d l y_Mo_ofSecret c_Mo_ofSecret 3 ((Option.some Jvm.ClassFile.FieldType.int)) 13 1 9 [.ref (B 0), .int x, .int w] (G) (mTp d B nk ns ne ec V G zrI) (zNo) := by
  have hnk : nk ≤ 8 := hM.2.1
  have hns : ns ≤ 6 := hM.2.2.1
  have hne : ne ≤ 64 := hM.2.2.2.1
  have hp2 : 2 ^ nk ≤ 256 := Nat.pow_le_pow_right (n := 2) (by decide) hnk
  refine z_entry hs0 hst (by decide) (Nat.le_of_ble_eq_true rfl) (fun p e s m args below meth c => ?_)
  refine z_aload_n 0 d_Mo_ofSecret_0 rfl rfl ?_
  refine z_iconst (v := 0) d_Mo_ofSecret_1 (by decide) ?_
  refine z_put zc_Mo 0 (by decide) qF_Mo_36 hM.mo rfl rfl rfl (Nat.le_of_ble_eq_true rfl) d_Mo_ofSecret_2 ?_
  obtain ⟨V1, hM1, hK1, hF1, hT1⟩ := hM.putT 0
  refine z_aload_n 0 d_Mo_ofSecret_5 rfl rfl ?_
  refine z_iload_n 1 d_Mo_ofSecret_6 rfl rfl ?_
  refine z_callV0 (m_Mo_isSecret hs0 hst hM1 x) ym_Mo_isSecret qM_Mo_147 qI_Mo_isSecret qV_Mo_Mo_isSecret zc_Mo hM1.mo d_Mo_ofSecret_7 rfl (Nat.le_of_ble_eq_true rfl) ⟨by decide, by decide⟩ ⟨Nat.le_of_ble_eq_true rfl, Nat.le_of_ble_eq_true rfl⟩ ?_
  refine z_if_ne 19 d_Mo_ofSecret_10 (by decide) (fun c_10 => ?_) (fun c_10 => ?_)
  · skip
    obtain ⟨si, hsi, rfl⟩ := zin_n ((zb_n0 _).mp c_10) (by omega)
    refine z_iload_n 2 d_Mo_ofSecret_19 rfl rfl ?_
    refine z_iconst (v := 0) d_Mo_ofSecret_20 (by decide) ?_
    refine z_bipush (v := (nI 8)) d_Mo_ofSecret_21 (by decide) ?_
    refine z_callS0 (m_Mo_in hs0 hst w 0 _) ym_Mo_in qM_Mo_115 qS_Mo_in d_Mo_ofSecret_23 rfl (Nat.le_of_ble_eq_true rfl) ⟨by decide, by decide⟩ ⟨Nat.le_of_ble_eq_true rfl, Nat.le_of_ble_eq_true rfl⟩ ?_
    refine z_if_ne 35 d_Mo_ofSecret_26 (by decide) (fun c_26 => ?_) (fun c_26 => ?_)
    · skip
      obtain ⟨wi, hwi, rfl⟩ := zin_l ((zb_n0 _).mp c_26) (by decide)
      refine z_aload_n 0 d_Mo_ofSecret_35 rfl rfl ?_
      refine z_iload_n 1 d_Mo_ofSecret_36 rfl rfl ?_
      refine z_iload_n 2 d_Mo_ofSecret_37 rfl rfl ?_
      refine z_callVp1 (m_Mo_secretNow hs0 hst hM1 hsi hwi) ym_Mo_secretNow qM_Mo_210 qI_Mo_secretNow qV_Mo_Mo_secretNow zc_Mo hM1.mo d_Mo_ofSecret_38 rfl (Nat.le_of_ble_eq_true rfl) ⟨by decide, by decide⟩ ⟨Nat.le_of_ble_eq_true rfl, Nat.le_of_ble_eq_true rfl⟩ (fun r_38 G_38 hp_38 => ?_)
      obtain ⟨⟨v_38, rfl⟩, V2, hM2, hK2, hF2⟩ := hp_38
      exact z_iret rfl (⟨⟨_, rfl⟩, V2, hM2, hK1.tr hK2.m.n, hF1.tr hF2⟩) (by first | decide | omega) (by first | decide | omega) d_Mo_ofSecret_41
    · skip
      refine z_aload_n 0 d_Mo_ofSecret_29 rfl rfl ?_
      refine z_iconst (v := 2) d_Mo_ofSecret_30 (by decide) ?_
      refine z_callV0 (m_Mo_no hs0 hst hM1.mo 2) ym_Mo_no qM_Mo_119 qI_Mo_no qV_Mo_Mo_no zc_Mo hM1.mo d_Mo_ofSecret_31 rfl (Nat.le_of_ble_eq_true rfl) ⟨by decide, by decide⟩ ⟨Nat.le_of_ble_eq_true rfl, Nat.le_of_ble_eq_true rfl⟩ ?_
      obtain ⟨V9, hM9, hK9, hF9, hT9⟩ := hM1.putT 2
      exact z_iret rfl (⟨⟨_, rfl⟩, V9, hM9, hK1.tr hK9, hF1.tr hF9⟩) (by first | decide | omega) (by first | decide | omega) d_Mo_ofSecret_34
  · skip
    refine z_aload_n 0 d_Mo_ofSecret_13 rfl rfl ?_
    refine z_iconst (v := 1) d_Mo_ofSecret_14 (by decide) ?_
    refine z_callV0 (m_Mo_no hs0 hst hM1.mo 1) ym_Mo_no qM_Mo_119 qI_Mo_no qV_Mo_Mo_no zc_Mo hM1.mo d_Mo_ofSecret_15 rfl (Nat.le_of_ble_eq_true rfl) ⟨by decide, by decide⟩ ⟨Nat.le_of_ble_eq_true rfl, Nat.le_of_ble_eq_true rfl⟩ ?_
    obtain ⟨V9, hM9, hK9, hF9, hT9⟩ := hM1.putT 1
    exact z_iret rfl (⟨⟨_, rfl⟩, V9, hM9, hK1.tr hK9, hF1.tr hF9⟩) (by first | decide | omega) (by first | decide | omega) d_Mo_ofSecret_18
theorem d_Mo_share_0 : decode c_Mo_share 0 = .ok (.aload_n 0, 1) := by decide +kernel
theorem d_Mo_share_1 : decode c_Mo_share 1 = .ok (.iconst 0, 1) := by decide +kernel
theorem d_Mo_share_2 : decode c_Mo_share 2 = .ok (.putfield 36, 3) := by decide +kernel
theorem d_Mo_share_5 : decode c_Mo_share 5 = .ok (.aload_n 0, 1) := by decide +kernel
theorem d_Mo_share_6 : decode c_Mo_share 6 = .ok (.iload_n 1, 1) := by decide +kernel
theorem d_Mo_share_7 : decode c_Mo_share 7 = .ok (.invokevirtual 147, 3) := by decide +kernel
theorem d_Mo_share_10 : decode c_Mo_share 10 = .ok (.ifCond .eq 11, 3) := by decide +kernel
theorem d_Mo_share_13 : decode c_Mo_share 13 = .ok (.aload_n 0, 1) := by decide +kernel
theorem d_Mo_share_14 : decode c_Mo_share 14 = .ok (.iload_n 2, 1) := by decide +kernel
theorem d_Mo_share_15 : decode c_Mo_share 15 = .ok (.invokevirtual 125, 3) := by decide +kernel
theorem d_Mo_share_18 : decode c_Mo_share 18 = .ok (.ifCond .ne 9, 3) := by decide +kernel
theorem d_Mo_share_21 : decode c_Mo_share 21 = .ok (.aload_n 0, 1) := by decide +kernel
theorem d_Mo_share_22 : decode c_Mo_share 22 = .ok (.iconst 1, 1) := by decide +kernel
theorem d_Mo_share_23 : decode c_Mo_share 23 = .ok (.invokevirtual 119, 3) := by decide +kernel
theorem d_Mo_share_26 : decode c_Mo_share 26 = .ok (.ireturn, 1) := by decide +kernel
theorem d_Mo_share_27 : decode c_Mo_share 27 = .ok (.iload_n 3, 1) := by decide +kernel
theorem d_Mo_share_28 : decode c_Mo_share 28 = .ok (.iconst 0, 1) := by decide +kernel
theorem d_Mo_share_29 : decode c_Mo_share 29 = .ok (.iconst 2, 1) := by decide +kernel
theorem d_Mo_share_30 : decode c_Mo_share 30 = .ok (.invokestatic 115, 3) := by decide +kernel
theorem d_Mo_share_33 : decode c_Mo_share 33 = .ok (.ifCond .ne 9, 3) := by decide +kernel
theorem d_Mo_share_36 : decode c_Mo_share 36 = .ok (.aload_n 0, 1) := by decide +kernel
theorem d_Mo_share_37 : decode c_Mo_share 37 = .ok (.iconst 2, 1) := by decide +kernel
theorem d_Mo_share_38 : decode c_Mo_share 38 = .ok (.invokevirtual 119, 3) := by decide +kernel
theorem d_Mo_share_41 : decode c_Mo_share 41 = .ok (.ireturn, 1) := by decide +kernel
theorem d_Mo_share_42 : decode c_Mo_share 42 = .ok (.aload_n 0, 1) := by decide +kernel
theorem d_Mo_share_43 : decode c_Mo_share 43 = .ok (.iload_n 1, 1) := by decide +kernel
theorem d_Mo_share_44 : decode c_Mo_share 44 = .ok (.iload_n 2, 1) := by decide +kernel
theorem d_Mo_share_45 : decode c_Mo_share 45 = .ok (.iload_n 3, 1) := by decide +kernel
theorem d_Mo_share_46 : decode c_Mo_share 46 = .ok (.invokevirtual 213, 3) := by decide +kernel
theorem d_Mo_share_49 : decode c_Mo_share 49 = .ok (.ireturn, 1) := by decide +kernel
set_option maxHeartbeats 4000000 in
set_option maxRecDepth 100000 in
theorem m_Mo_share {g0 : State} {d : zD} {l : Launch} {a0 : Array Value} (hs0 : zS0 d a0 g0) (hst : l.stackTraces = false) {G : zG} {B : Nat → Nat} {V : Nat → Nat → Int32} {nk ns ne ec : Nat} (hM : zM d B V nk ns ne ec G) (x z w : Int32) : zMet g0 d l y_Mo_share c_Mo_share 4 ((Option.some Jvm.ClassFile.FieldType.int)) 13 0 0 [.ref (B 0), .int x, .int z, .int w] (G) (mTp d B nk ns ne ec V G zrI) (zNo) := by
  have hnk : nk ≤ 8 := hM.2.1
  have hns : ns ≤ 6 := hM.2.2.1
  have hne : ne ≤ 64 := hM.2.2.2.1
  have hp2 : 2 ^ nk ≤ 256 := Nat.pow_le_pow_right (n := 2) (by decide) hnk
  refine z_entry hs0 hst (by decide) (Nat.le_of_ble_eq_true rfl) (fun p e s m args below meth c => ?_)
  refine z_aload_n 0 d_Mo_share_0 rfl rfl ?_
  refine z_iconst (v := 0) d_Mo_share_1 (by decide) ?_
  refine z_put zc_Mo 0 (by decide) qF_Mo_36 hM.mo rfl rfl rfl (Nat.le_of_ble_eq_true rfl) d_Mo_share_2 ?_
  obtain ⟨V1, hM1, hK1, hF1, hT1⟩ := hM.putT 0
  refine z_aload_n 0 d_Mo_share_5 rfl rfl ?_
  refine z_iload_n 1 d_Mo_share_6 rfl rfl ?_
  refine z_callV0 (m_Mo_isSecret hs0 hst hM1 x) ym_Mo_isSecret qM_Mo_147 qI_Mo_isSecret qV_Mo_Mo_isSecret zc_Mo hM1.mo d_Mo_share_7 rfl (Nat.le_of_ble_eq_true rfl) ⟨Nat.zero_le _, Nat.zero_le _⟩ ⟨Nat.le_of_ble_eq_true rfl, Nat.le_of_ble_eq_true rfl⟩ ?_
  refine z_if_eq 21 d_Mo_share_10 (by decide) (fun c_10 => ?_) (fun c_10 => ?_)
  · skip
    refine z_aload_n 0 d_Mo_share_21 rfl rfl ?_
    refine z_iconst (v := 1) d_Mo_share_22 (by decide) ?_
    refine z_callV0 (m_Mo_no hs0 hst hM1.mo 1) ym_Mo_no qM_Mo_119 qI_Mo_no qV_Mo_Mo_no zc_Mo hM1.mo d_Mo_share_23 rfl (Nat.le_of_ble_eq_true rfl) ⟨Nat.zero_le _, Nat.zero_le _⟩ ⟨Nat.le_of_ble_eq_true rfl, Nat.le_of_ble_eq_true rfl⟩ ?_
    obtain ⟨V9, hM9, hK9, hF9, hT9⟩ := hM1.putT 1
    exact z_iret rfl (⟨⟨_, rfl⟩, V9, hM9, hK1.tr hK9, hF1.tr hF9⟩) (by first | decide | omega) (by first | decide | omega) d_Mo_share_26
  · skip
    obtain ⟨si, hsi, rfl⟩ := zin_n ((zb_n0 _).mp c_10) (by omega)
    refine z_aload_n 0 d_Mo_share_13 rfl rfl ?_
    refine z_iload_n 2 d_Mo_share_14 rfl rfl ?_
    refine z_callV0 (m_Mo_isKeeper hs0 hst hM1 z) ym_Mo_isKeeper qM_Mo_125 qI_Mo_isKeeper qV_Mo_Mo_isKeeper zc_Mo hM1.mo d_Mo_share_15 rfl (Nat.le_of_ble_eq_true rfl) ⟨Nat.zero_le _, Nat.zero_le _⟩ ⟨Nat.le_of_ble_eq_true rfl, Nat.le_of_ble_eq_true rfl⟩ ?_
    refine z_if_ne 27 d_Mo_share_18 (by decide) (fun c_18 => ?_) (fun c_18 => ?_)
    · skip
      obtain ⟨ki, hki, rfl⟩ := zin_n ((zb_n0 _).mp c_18) (by omega)
      refine z_iload_n 3 d_Mo_share_27 rfl rfl ?_
      refine z_iconst (v := 0) d_Mo_share_28 (by decide) ?_
      refine z_iconst (v := 2) d_Mo_share_29 (by decide) ?_
      refine z_callS0 (m_Mo_in hs0 hst w 0 _) ym_Mo_in qM_Mo_115 qS_Mo_in d_Mo_share_30 rfl (Nat.le_of_ble_eq_true rfl) ⟨Nat.zero_le _, Nat.zero_le _⟩ ⟨Nat.le_of_ble_eq_true rfl, Nat.le_of_ble_eq_true rfl⟩ ?_
      refine z_if_ne 42 d_Mo_share_33 (by decide) (fun c_33 => ?_) (fun c_33 => ?_)
      · skip
        refine z_aload_n 0 d_Mo_share_42 rfl rfl ?_
        refine z_iload_n 1 d_Mo_share_43 rfl rfl ?_
        refine z_iload_n 2 d_Mo_share_44 rfl rfl ?_
        refine z_iload_n 3 d_Mo_share_45 rfl rfl ?_
        refine z_callVp0 (m_Mo_shareNow hs0 hst hM1 hsi hki w) ym_Mo_shareNow qM_Mo_213 qI_Mo_shareNow qV_Mo_Mo_shareNow zc_Mo hM1.mo d_Mo_share_46 rfl (Nat.le_of_ble_eq_true rfl) ⟨Nat.zero_le _, Nat.zero_le _⟩ ⟨Nat.le_of_ble_eq_true rfl, Nat.le_of_ble_eq_true rfl⟩ (fun r_46 G_46 hp_46 => ?_)
        obtain ⟨⟨v_46, rfl⟩, rfl⟩ := hp_46
        exact z_iret rfl (⟨⟨_, rfl⟩, V1, hM1, hK1, hF1⟩) (by first | decide | omega) (by first | decide | omega) d_Mo_share_49
      · skip
        refine z_aload_n 0 d_Mo_share_36 rfl rfl ?_
        refine z_iconst (v := 2) d_Mo_share_37 (by decide) ?_
        refine z_callV0 (m_Mo_no hs0 hst hM1.mo 2) ym_Mo_no qM_Mo_119 qI_Mo_no qV_Mo_Mo_no zc_Mo hM1.mo d_Mo_share_38 rfl (Nat.le_of_ble_eq_true rfl) ⟨Nat.zero_le _, Nat.zero_le _⟩ ⟨Nat.le_of_ble_eq_true rfl, Nat.le_of_ble_eq_true rfl⟩ ?_
        obtain ⟨V9, hM9, hK9, hF9, hT9⟩ := hM1.putT 2
        exact z_iret rfl (⟨⟨_, rfl⟩, V9, hM9, hK1.tr hK9, hF1.tr hF9⟩) (by first | decide | omega) (by first | decide | omega) d_Mo_share_41
    · skip
      refine z_aload_n 0 d_Mo_share_21 rfl rfl ?_
      refine z_iconst (v := 1) d_Mo_share_22 (by decide) ?_
      refine z_callV0 (m_Mo_no hs0 hst hM1.mo 1) ym_Mo_no qM_Mo_119 qI_Mo_no qV_Mo_Mo_no zc_Mo hM1.mo d_Mo_share_23 rfl (Nat.le_of_ble_eq_true rfl) ⟨Nat.zero_le _, Nat.zero_le _⟩ ⟨Nat.le_of_ble_eq_true rfl, Nat.le_of_ble_eq_true rfl⟩ ?_
      obtain ⟨V9, hM9, hK9, hF9, hT9⟩ := hM1.putT 1
      exact z_iret rfl (⟨⟨_, rfl⟩, V9, hM9, hK1.tr hK9, hF1.tr hF9⟩) (by first | decide | omega) (by first | decide | omega) d_Mo_share_26
theorem d_Mo_bank_0 : decode c_Mo_bank 0 = .ok (.aload_n 0, 1) := by decide +kernel
theorem d_Mo_bank_1 : decode c_Mo_bank 1 = .ok (.iconst 0, 1) := by decide +kernel
theorem d_Mo_bank_2 : decode c_Mo_bank 2 = .ok (.putfield 36, 3) := by decide +kernel
theorem d_Mo_bank_5 : decode c_Mo_bank 5 = .ok (.iload_n 1, 1) := by decide +kernel
theorem d_Mo_bank_6 : decode c_Mo_bank 6 = .ok (.iconst 0, 1) := by decide +kernel
theorem d_Mo_bank_7 : decode c_Mo_bank 7 = .ok (.bipush 11, 2) := by decide +kernel
theorem d_Mo_bank_9 : decode c_Mo_bank 9 = .ok (.invokestatic 115, 3) := by decide +kernel
theorem d_Mo_bank_12 : decode c_Mo_bank 12 = .ok (.ifCond .ne 9, 3) := by decide +kernel
theorem d_Mo_bank_15 : decode c_Mo_bank 15 = .ok (.aload_n 0, 1) := by decide +kernel
theorem d_Mo_bank_16 : decode c_Mo_bank 16 = .ok (.iconst 1, 1) := by decide +kernel
theorem d_Mo_bank_17 : decode c_Mo_bank 17 = .ok (.invokevirtual 119, 3) := by decide +kernel
theorem d_Mo_bank_20 : decode c_Mo_bank 20 = .ok (.ireturn, 1) := by decide +kernel
theorem d_Mo_bank_21 : decode c_Mo_bank 21 = .ok (.aload_n 0, 1) := by decide +kernel
theorem d_Mo_bank_22 : decode c_Mo_bank 22 = .ok (.iload_n 1, 1) := by decide +kernel
theorem d_Mo_bank_23 : decode c_Mo_bank 23 = .ok (.invokevirtual 225, 3) := by decide +kernel
theorem d_Mo_bank_26 : decode c_Mo_bank 26 = .ok (.ireturn, 1) := by decide +kernel
set_option maxHeartbeats 4000000 in
set_option maxRecDepth 100000 in
theorem m_Mo_bank {g0 : State} {d : zD} {l : Launch} {a0 : Array Value} (hs0 : zS0 d a0 g0) (hst : l.stackTraces = false) {G : zG} {B : Nat → Nat} {V : Nat → Nat → Int32} {nk ns ne ec : Nat} (hM : zM d B V nk ns ne ec G) (w : Int32) : zMet g0 d l y_Mo_bank c_Mo_bank 2 ((Option.some Jvm.ClassFile.FieldType.int)) 22 1 12 [.ref (B 0), .int w] (G) (mTp d B nk ns ne ec V G zrI) (zNo) := by
  have hnk : nk ≤ 8 := hM.2.1
  have hns : ns ≤ 6 := hM.2.2.1
  have hne : ne ≤ 64 := hM.2.2.2.1
  have hp2 : 2 ^ nk ≤ 256 := Nat.pow_le_pow_right (n := 2) (by decide) hnk
  refine z_entry hs0 hst (by decide) (Nat.le_of_ble_eq_true rfl) (fun p e s m args below meth c => ?_)
  refine z_aload_n 0 d_Mo_bank_0 rfl rfl ?_
  refine z_iconst (v := 0) d_Mo_bank_1 (by decide) ?_
  refine z_put zc_Mo 0 (by decide) qF_Mo_36 hM.mo rfl rfl rfl (Nat.le_of_ble_eq_true rfl) d_Mo_bank_2 ?_
  obtain ⟨V1, hM1, hK1, hF1, hT1⟩ := hM.putT 0
  refine z_iload_n 1 d_Mo_bank_5 rfl rfl ?_
  refine z_iconst (v := 0) d_Mo_bank_6 (by decide) ?_
  refine z_bipush (v := (nI 11)) d_Mo_bank_7 (by decide) ?_
  refine z_callS0 (m_Mo_in hs0 hst w 0 _) ym_Mo_in qM_Mo_115 qS_Mo_in d_Mo_bank_9 rfl (Nat.le_of_ble_eq_true rfl) ⟨by decide, by decide⟩ ⟨Nat.le_of_ble_eq_true rfl, Nat.le_of_ble_eq_true rfl⟩ ?_
  refine z_if_ne 21 d_Mo_bank_12 (by decide) (fun c_12 => ?_) (fun c_12 => ?_)
  · skip
    obtain ⟨wi, hwi, rfl⟩ := zin_l ((zb_n0 _).mp c_12) (by decide)
    refine z_aload_n 0 d_Mo_bank_21 rfl rfl ?_
    refine z_iload_n 1 d_Mo_bank_22 rfl rfl ?_
    refine z_callVp1 (m_Mo_bankNow hs0 hst hM1 hwi) ym_Mo_bankNow qM_Mo_225 qI_Mo_bankNow qV_Mo_Mo_bankNow zc_Mo hM1.mo d_Mo_bank_23 rfl (Nat.le_of_ble_eq_true rfl) ⟨by decide, by decide⟩ ⟨Nat.le_of_ble_eq_true rfl, Nat.le_of_ble_eq_true rfl⟩ (fun r_23 G_23 hp_23 => ?_)
    obtain ⟨⟨v_23, rfl⟩, V2, hM2, hK2, hF2⟩ := hp_23
    exact z_iret rfl (⟨⟨_, rfl⟩, V2, hM2, hK1.tr hK2.m.n, hF1.tr hF2⟩) (by first | decide | omega) (by first | decide | omega) d_Mo_bank_26
  · skip
    refine z_aload_n 0 d_Mo_bank_15 rfl rfl ?_
    refine z_iconst (v := 1) d_Mo_bank_16 (by decide) ?_
    refine z_callV0 (m_Mo_no hs0 hst hM1.mo 1) ym_Mo_no qM_Mo_119 qI_Mo_no qV_Mo_Mo_no zc_Mo hM1.mo d_Mo_bank_17 rfl (Nat.le_of_ble_eq_true rfl) ⟨by decide, by decide⟩ ⟨Nat.le_of_ble_eq_true rfl, Nat.le_of_ble_eq_true rfl⟩ ?_
    obtain ⟨V9, hM9, hK9, hF9, hT9⟩ := hM1.putT 1
    exact z_iret rfl (⟨⟨_, rfl⟩, V9, hM9, hK1.tr hK9, hF1.tr hF9⟩) (by first | decide | omega) (by first | decide | omega) d_Mo_bank_20
theorem d_Mo_ofEntry_0 : decode c_Mo_ofEntry 0 = .ok (.aload_n 0, 1) := by decide +kernel
theorem d_Mo_ofEntry_1 : decode c_Mo_ofEntry 1 = .ok (.iconst 0, 1) := by decide +kernel
theorem d_Mo_ofEntry_2 : decode c_Mo_ofEntry 2 = .ok (.putfield 36, 3) := by decide +kernel
theorem d_Mo_ofEntry_5 : decode c_Mo_ofEntry 5 = .ok (.aload_n 0, 1) := by decide +kernel
theorem d_Mo_ofEntry_6 : decode c_Mo_ofEntry 6 = .ok (.iload_n 1, 1) := by decide +kernel
theorem d_Mo_ofEntry_7 : decode c_Mo_ofEntry 7 = .ok (.invokevirtual 228, 3) := by decide +kernel
theorem d_Mo_ofEntry_10 : decode c_Mo_ofEntry 10 = .ok (.ifCond .ne 9, 3) := by decide +kernel
theorem d_Mo_ofEntry_13 : decode c_Mo_ofEntry 13 = .ok (.aload_n 0, 1) := by decide +kernel
theorem d_Mo_ofEntry_14 : decode c_Mo_ofEntry 14 = .ok (.iconst 1, 1) := by decide +kernel
theorem d_Mo_ofEntry_15 : decode c_Mo_ofEntry 15 = .ok (.invokevirtual 119, 3) := by decide +kernel
theorem d_Mo_ofEntry_18 : decode c_Mo_ofEntry 18 = .ok (.ireturn, 1) := by decide +kernel
theorem d_Mo_ofEntry_19 : decode c_Mo_ofEntry 19 = .ok (.iload_n 2, 1) := by decide +kernel
theorem d_Mo_ofEntry_20 : decode c_Mo_ofEntry 20 = .ok (.iconst 0, 1) := by decide +kernel
theorem d_Mo_ofEntry_21 : decode c_Mo_ofEntry 21 = .ok (.iconst 3, 1) := by decide +kernel
theorem d_Mo_ofEntry_22 : decode c_Mo_ofEntry 22 = .ok (.invokestatic 115, 3) := by decide +kernel
theorem d_Mo_ofEntry_25 : decode c_Mo_ofEntry 25 = .ok (.ifCond .ne 9, 3) := by decide +kernel
theorem d_Mo_ofEntry_28 : decode c_Mo_ofEntry 28 = .ok (.aload_n 0, 1) := by decide +kernel
theorem d_Mo_ofEntry_29 : decode c_Mo_ofEntry 29 = .ok (.iconst 2, 1) := by decide +kernel
theorem d_Mo_ofEntry_30 : decode c_Mo_ofEntry 30 = .ok (.invokevirtual 119, 3) := by decide +kernel
theorem d_Mo_ofEntry_33 : decode c_Mo_ofEntry 33 = .ok (.ireturn, 1) := by decide +kernel
theorem d_Mo_ofEntry_34 : decode c_Mo_ofEntry 34 = .ok (.aload_n 0, 1) := by decide +kernel
theorem d_Mo_ofEntry_35 : decode c_Mo_ofEntry 35 = .ok (.getfield 23, 3) := by decide +kernel
theorem d_Mo_ofEntry_38 : decode c_Mo_ofEntry 38 = .ok (.iload_n 1, 1) := by decide +kernel
theorem d_Mo_ofEntry_39 : decode c_Mo_ofEntry 39 = .ok (.invokeinterface 51 2, 5) := by decide +kernel
theorem d_Mo_ofEntry_44 : decode c_Mo_ofEntry 44 = .ok (.checkcast 217, 3) := by decide +kernel
theorem d_Mo_ofEntry_47 : decode c_Mo_ofEntry 47 = .ok (.iload_n 2, 1) := by decide +kernel
theorem d_Mo_ofEntry_48 : decode c_Mo_ofEntry 48 = .ok (.iaload, 1) := by decide +kernel
theorem d_Mo_ofEntry_49 : decode c_Mo_ofEntry 49 = .ok (.ireturn, 1) := by decide +kernel
set_option maxHeartbeats 4000000 in
set_option maxRecDepth 100000 in
theorem m_Mo_ofEntry {g0 : State} {d : zD} {l : Launch} {a0 : Array Value} (hs0 : zS0 d a0 g0) (hst : l.stackTraces = false) {G : zG} {B : Nat → Nat} {V : Nat → Nat → Int32} {nk ns ne ec : Nat} (hM : zM d B V nk ns ne ec G) (x w : Int32) : zMet g0 d l y_Mo_ofEntry c_Mo_ofEntry 3 ((Option.some Jvm.ClassFile.FieldType.int)) 11 0 0 [.ref (B 0), .int x, .int w] (G) (mTp d B nk ns ne ec V G zrI) (zNo) := by
  have hnk : nk ≤ 8 := hM.2.1
  have hns : ns ≤ 6 := hM.2.2.1
  have hne : ne ≤ 64 := hM.2.2.2.1
  have hp2 : 2 ^ nk ≤ 256 := Nat.pow_le_pow_right (n := 2) (by decide) hnk
  refine z_entry hs0 hst (by decide) (Nat.le_of_ble_eq_true rfl) (fun p e s m args below meth c => ?_)
  refine z_aload_n 0 d_Mo_ofEntry_0 rfl rfl ?_
  refine z_iconst (v := 0) d_Mo_ofEntry_1 (by decide) ?_
  refine z_put zc_Mo 0 (by decide) qF_Mo_36 hM.mo rfl rfl rfl (Nat.le_of_ble_eq_true rfl) d_Mo_ofEntry_2 ?_
  obtain ⟨V1, hM1, hK1, hF1, hT1⟩ := hM.putT 0
  refine z_aload_n 0 d_Mo_ofEntry_5 rfl rfl ?_
  refine z_iload_n 1 d_Mo_ofEntry_6 rfl rfl ?_
  refine z_callV0 (m_Mo_isEntry hs0 hst hM1 x) ym_Mo_isEntry qM_Mo_228 qI_Mo_isEntry qV_Mo_Mo_isEntry zc_Mo hM1.mo d_Mo_ofEntry_7 rfl (Nat.le_of_ble_eq_true rfl) ⟨Nat.zero_le _, Nat.zero_le _⟩ ⟨Nat.le_of_ble_eq_true rfl, Nat.le_of_ble_eq_true rfl⟩ ?_
  refine z_if_ne 19 d_Mo_ofEntry_10 (by decide) (fun c_10 => ?_) (fun c_10 => ?_)
  · skip
    obtain ⟨ei, hei, rfl⟩ := zin_n ((zb_n0 _).mp c_10) (by omega)
    refine z_iload_n 2 d_Mo_ofEntry_19 rfl rfl ?_
    refine z_iconst (v := 0) d_Mo_ofEntry_20 (by decide) ?_
    refine z_iconst (v := (nI 3)) d_Mo_ofEntry_21 (by decide) ?_
    refine z_callS0 (m_Mo_in hs0 hst w 0 _) ym_Mo_in qM_Mo_115 qS_Mo_in d_Mo_ofEntry_22 rfl (Nat.le_of_ble_eq_true rfl) ⟨Nat.zero_le _, Nat.zero_le _⟩ ⟨Nat.le_of_ble_eq_true rfl, Nat.le_of_ble_eq_true rfl⟩ ?_
    refine z_if_ne 34 d_Mo_ofEntry_25 (by decide) (fun c_25 => ?_) (fun c_25 => ?_)
    · skip
      obtain ⟨wi, hwi, rfl⟩ := zin_l ((zb_n0 _).mp c_25) (by decide)
      refine z_aload_n 0 d_Mo_ofEntry_34 rfl rfl ?_
      refine z_get zc_Mo 8 (by decide) qF_Mo_23 hM1.mo rfl d_Mo_ofEntry_35 ?_
      refine z_iload_n 1 d_Mo_ofEntry_38 rfl rfl ?_
      refine z_callF0 (m_AL_get hs0 hst (hM1.eA hei) hei (if_pos hei)) ym_AL_get zF_AL_get qM_Mo_51 zc_AL (hM1.eA hei).1 d_Mo_ofEntry_39 rfl (Nat.le_of_ble_eq_true rfl) ⟨Nat.zero_le _, Nat.zero_le _⟩ ⟨Nat.le_of_ble_eq_true rfl, Nat.le_of_ble_eq_true rfl⟩ ?_
      refine z_castI qK_Mo_217 (hM1.en hei) d_Mo_ofEntry_44 ?_
      refine z_iload_n 2 d_Mo_ofEntry_47 rfl rfl ?_
      refine z_ialdN (hM1.en hei) (hwi) (by decide) d_Mo_ofEntry_48 ?_
      exact z_iret rfl (⟨⟨_, rfl⟩, V1, hM1, hK1, hF1⟩) (by first | decide | omega) (by first | decide | omega) d_Mo_ofEntry_49
    · skip
      refine z_aload_n 0 d_Mo_ofEntry_28 rfl rfl ?_
      refine z_iconst (v := 2) d_Mo_ofEntry_29 (by decide) ?_
      refine z_callV0 (m_Mo_no hs0 hst hM1.mo 2) ym_Mo_no qM_Mo_119 qI_Mo_no qV_Mo_Mo_no zc_Mo hM1.mo d_Mo_ofEntry_30 rfl (Nat.le_of_ble_eq_true rfl) ⟨Nat.zero_le _, Nat.zero_le _⟩ ⟨Nat.le_of_ble_eq_true rfl, Nat.le_of_ble_eq_true rfl⟩ ?_
      obtain ⟨V9, hM9, hK9, hF9, hT9⟩ := hM1.putT 2
      exact z_iret rfl (⟨⟨_, rfl⟩, V9, hM9, hK1.tr hK9, hF1.tr hF9⟩) (by first | decide | omega) (by first | decide | omega) d_Mo_ofEntry_33
  · skip
    refine z_aload_n 0 d_Mo_ofEntry_13 rfl rfl ?_
    refine z_iconst (v := 1) d_Mo_ofEntry_14 (by decide) ?_
    refine z_callV0 (m_Mo_no hs0 hst hM1.mo 1) ym_Mo_no qM_Mo_119 qI_Mo_no qV_Mo_Mo_no zc_Mo hM1.mo d_Mo_ofEntry_15 rfl (Nat.le_of_ble_eq_true rfl) ⟨Nat.zero_le _, Nat.zero_le _⟩ ⟨Nat.le_of_ble_eq_true rfl, Nat.le_of_ble_eq_true rfl⟩ ?_
    obtain ⟨V9, hM9, hK9, hF9, hT9⟩ := hM1.putT 1
    exact z_iret rfl (⟨⟨_, rfl⟩, V9, hM9, hK1.tr hK9, hF1.tr hF9⟩) (by first | decide | omega) (by first | decide | omega) d_Mo_ofEntry_18
theorem d_Mo_proof_0 : decode c_Mo_proof 0 = .ok (.aload_n 0, 1) := by decide +kernel
theorem d_Mo_proof_1 : decode c_Mo_proof 1 = .ok (.iconst 0, 1) := by decide +kernel
theorem d_Mo_proof_2 : decode c_Mo_proof 2 = .ok (.putfield 36, 3) := by decide +kernel
theorem d_Mo_proof_5 : decode c_Mo_proof 5 = .ok (.aload_n 0, 1) := by decide +kernel
theorem d_Mo_proof_6 : decode c_Mo_proof 6 = .ok (.iload_n 1, 1) := by decide +kernel
theorem d_Mo_proof_7 : decode c_Mo_proof 7 = .ok (.invokevirtual 228, 3) := by decide +kernel
theorem d_Mo_proof_10 : decode c_Mo_proof 10 = .ok (.ifCond .eq 12, 3) := by decide +kernel
theorem d_Mo_proof_13 : decode c_Mo_proof 13 = .ok (.iload_n 2, 1) := by decide +kernel
theorem d_Mo_proof_14 : decode c_Mo_proof 14 = .ok (.iconst 0, 1) := by decide +kernel
theorem d_Mo_proof_15 : decode c_Mo_proof 15 = .ok (.iconst 5, 1) := by decide +kernel
theorem d_Mo_proof_16 : decode c_Mo_proof 16 = .ok (.invokestatic 115, 3) := by decide +kernel
theorem d_Mo_proof_19 : decode c_Mo_proof 19 = .ok (.ifCond .ne 9, 3) := by decide +kernel
theorem d_Mo_proof_22 : decode c_Mo_proof 22 = .ok (.aload_n 0, 1) := by decide +kernel
theorem d_Mo_proof_23 : decode c_Mo_proof 23 = .ok (.iconst 1, 1) := by decide +kernel
theorem d_Mo_proof_24 : decode c_Mo_proof 24 = .ok (.invokevirtual 119, 3) := by decide +kernel
theorem d_Mo_proof_27 : decode c_Mo_proof 27 = .ok (.ireturn, 1) := by decide +kernel
theorem d_Mo_proof_28 : decode c_Mo_proof 28 = .ok (.aload_n 0, 1) := by decide +kernel
theorem d_Mo_proof_29 : decode c_Mo_proof 29 = .ok (.iload_n 1, 1) := by decide +kernel
theorem d_Mo_proof_30 : decode c_Mo_proof 30 = .ok (.iload_n 2, 1) := by decide +kernel
theorem d_Mo_proof_31 : decode c_Mo_proof 31 = .ok (.invokevirtual 231, 3) := by decide +kernel
theorem d_Mo_proof_34 : decode c_Mo_proof 34 = .ok (.ireturn, 1) := by decide +kernel
set_option maxHeartbeats 4000000 in
set_option maxRecDepth 100000 in
theorem m_Mo_proof {g0 : State} {d : zD} {l : Launch} {a0 : Array Value} (hs0 : zS0 d a0 g0) (hst : l.stackTraces = false) {G : zG} {B : Nat → Nat} {V : Nat → Nat → Int32} {nk ns ne ec : Nat} (hM : zM d B V nk ns ne ec G) (x w : Int32) : zMet g0 d l y_Mo_proof c_Mo_proof 3 ((Option.some Jvm.ClassFile.FieldType.int)) 22 0 0 [.ref (B 0), .int x, .int w] (G) (mTp d B nk ns ne ec V G zrI) (zNo) := by
  have hnk : nk ≤ 8 := hM.2.1
  have hns : ns ≤ 6 := hM.2.2.1
  have hne : ne ≤ 64 := hM.2.2.2.1
  have hp2 : 2 ^ nk ≤ 256 := Nat.pow_le_pow_right (n := 2) (by decide) hnk
  refine z_entry hs0 hst (by decide) (Nat.le_of_ble_eq_true rfl) (fun p e s m args below meth c => ?_)
  refine z_aload_n 0 d_Mo_proof_0 rfl rfl ?_
  refine z_iconst (v := 0) d_Mo_proof_1 (by decide) ?_
  refine z_put zc_Mo 0 (by decide) qF_Mo_36 hM.mo rfl rfl rfl (Nat.le_of_ble_eq_true rfl) d_Mo_proof_2 ?_
  obtain ⟨V1, hM1, hK1, hF1, hT1⟩ := hM.putT 0
  refine z_aload_n 0 d_Mo_proof_5 rfl rfl ?_
  refine z_iload_n 1 d_Mo_proof_6 rfl rfl ?_
  refine z_callV0 (m_Mo_isEntry hs0 hst hM1 x) ym_Mo_isEntry qM_Mo_228 qI_Mo_isEntry qV_Mo_Mo_isEntry zc_Mo hM1.mo d_Mo_proof_7 rfl (Nat.le_of_ble_eq_true rfl) ⟨Nat.zero_le _, Nat.zero_le _⟩ ⟨Nat.le_of_ble_eq_true rfl, Nat.le_of_ble_eq_true rfl⟩ ?_
  refine z_if_eq 22 d_Mo_proof_10 (by decide) (fun c_10 => ?_) (fun c_10 => ?_)
  · skip
    refine z_aload_n 0 d_Mo_proof_22 rfl rfl ?_
    refine z_iconst (v := 1) d_Mo_proof_23 (by decide) ?_
    refine z_callV0 (m_Mo_no hs0 hst hM1.mo 1) ym_Mo_no qM_Mo_119 qI_Mo_no qV_Mo_Mo_no zc_Mo hM1.mo d_Mo_proof_24 rfl (Nat.le_of_ble_eq_true rfl) ⟨Nat.zero_le _, Nat.zero_le _⟩ ⟨Nat.le_of_ble_eq_true rfl, Nat.le_of_ble_eq_true rfl⟩ ?_
    obtain ⟨V9, hM9, hK9, hF9, hT9⟩ := hM1.putT 1
    exact z_iret rfl (⟨⟨_, rfl⟩, V9, hM9, hK1.tr hK9, hF1.tr hF9⟩) (by first | decide | omega) (by first | decide | omega) d_Mo_proof_27
  · skip
    obtain ⟨ei, hei, rfl⟩ := zin_n ((zb_n0 _).mp c_10) (by omega)
    refine z_iload_n 2 d_Mo_proof_13 rfl rfl ?_
    refine z_iconst (v := 0) d_Mo_proof_14 (by decide) ?_
    refine z_iconst (v := (nI 5)) d_Mo_proof_15 (by decide) ?_
    refine z_callS0 (m_Mo_in hs0 hst w 0 _) ym_Mo_in qM_Mo_115 qS_Mo_in d_Mo_proof_16 rfl (Nat.le_of_ble_eq_true rfl) ⟨Nat.zero_le _, Nat.zero_le _⟩ ⟨Nat.le_of_ble_eq_true rfl, Nat.le_of_ble_eq_true rfl⟩ ?_
    refine z_if_ne 28 d_Mo_proof_19 (by decide) (fun c_19 => ?_) (fun c_19 => ?_)
    · skip
      obtain ⟨wi, hwi, rfl⟩ := zin_l ((zb_n0 _).mp c_19) (by decide)
      refine z_aload_n 0 d_Mo_proof_28 rfl rfl ?_
      refine z_iload_n 1 d_Mo_proof_29 rfl rfl ?_
      refine z_iload_n 2 d_Mo_proof_30 rfl rfl ?_
      refine z_callVp0 ((m_Mo_proofNow hs0 hst hM1 (show ei < 64 by omega) (show wi ≤ 5 by omega))) ym_Mo_proofNow qM_Mo_231 qI_Mo_proofNow qV_Mo_Mo_proofNow zc_Mo hM1.mo d_Mo_proof_31 rfl (Nat.le_of_ble_eq_true rfl) ⟨Nat.zero_le _, Nat.zero_le _⟩ ⟨Nat.le_of_ble_eq_true rfl, Nat.le_of_ble_eq_true rfl⟩ (fun r_31 G_31 hp_31 => ?_)
      obtain ⟨⟨v_31, rfl⟩, rfl⟩ := hp_31
      exact z_iret rfl (⟨⟨_, rfl⟩, V1, hM1, hK1, hF1⟩) (by first | decide | omega) (by first | decide | omega) d_Mo_proof_34
    · skip
      refine z_aload_n 0 d_Mo_proof_22 rfl rfl ?_
      refine z_iconst (v := 1) d_Mo_proof_23 (by decide) ?_
      refine z_callV0 (m_Mo_no hs0 hst hM1.mo 1) ym_Mo_no qM_Mo_119 qI_Mo_no qV_Mo_Mo_no zc_Mo hM1.mo d_Mo_proof_24 rfl (Nat.le_of_ble_eq_true rfl) ⟨Nat.zero_le _, Nat.zero_le _⟩ ⟨Nat.le_of_ble_eq_true rfl, Nat.le_of_ble_eq_true rfl⟩ ?_
      obtain ⟨V9, hM9, hK9, hF9, hT9⟩ := hM1.putT 1
      exact z_iret rfl (⟨⟨_, rfl⟩, V9, hM9, hK1.tr hK9, hF1.tr hF9⟩) (by first | decide | omega) (by first | decide | omega) d_Mo_proof_27
theorem d_Mo_would_0 : decode c_Mo_would 0 = .ok (.aload_n 0, 1) := by decide +kernel
theorem d_Mo_would_1 : decode c_Mo_would 1 = .ok (.iconst 0, 1) := by decide +kernel
theorem d_Mo_would_2 : decode c_Mo_would 2 = .ok (.putfield 36, 3) := by decide +kernel
theorem d_Mo_would_5 : decode c_Mo_would 5 = .ok (.aload_n 0, 1) := by decide +kernel
theorem d_Mo_would_6 : decode c_Mo_would 6 = .ok (.iload_n 1, 1) := by decide +kernel
theorem d_Mo_would_7 : decode c_Mo_would 7 = .ok (.invokevirtual 147, 3) := by decide +kernel
theorem d_Mo_would_10 : decode c_Mo_would 10 = .ok (.ifCond .ne 9, 3) := by decide +kernel
theorem d_Mo_would_13 : decode c_Mo_would 13 = .ok (.aload_n 0, 1) := by decide +kernel
theorem d_Mo_would_14 : decode c_Mo_would 14 = .ok (.iconst 1, 1) := by decide +kernel
theorem d_Mo_would_15 : decode c_Mo_would 15 = .ok (.invokevirtual 119, 3) := by decide +kernel
theorem d_Mo_would_18 : decode c_Mo_would 18 = .ok (.ireturn, 1) := by decide +kernel
theorem d_Mo_would_19 : decode c_Mo_would 19 = .ok (.aload_n 0, 1) := by decide +kernel
theorem d_Mo_would_20 : decode c_Mo_would 20 = .ok (.iload_n 2, 1) := by decide +kernel
theorem d_Mo_would_21 : decode c_Mo_would 21 = .ok (.invokevirtual 129, 3) := by decide +kernel
theorem d_Mo_would_24 : decode c_Mo_would 24 = .ok (.ifCond .eq 12, 3) := by decide +kernel
theorem d_Mo_would_27 : decode c_Mo_would 27 = .ok (.iload_n 3, 1) := by decide +kernel
theorem d_Mo_would_28 : decode c_Mo_would 28 = .ok (.iconst 0, 1) := by decide +kernel
theorem d_Mo_would_29 : decode c_Mo_would 29 = .ok (.iconst 5, 1) := by decide +kernel
theorem d_Mo_would_30 : decode c_Mo_would 30 = .ok (.invokestatic 115, 3) := by decide +kernel
theorem d_Mo_would_33 : decode c_Mo_would 33 = .ok (.ifCond .ne 9, 3) := by decide +kernel
theorem d_Mo_would_36 : decode c_Mo_would 36 = .ok (.aload_n 0, 1) := by decide +kernel
theorem d_Mo_would_37 : decode c_Mo_would 37 = .ok (.iconst 2, 1) := by decide +kernel
theorem d_Mo_would_38 : decode c_Mo_would 38 = .ok (.invokevirtual 119, 3) := by decide +kernel
theorem d_Mo_would_41 : decode c_Mo_would 41 = .ok (.ireturn, 1) := by decide +kernel
theorem d_Mo_would_42 : decode c_Mo_would 42 = .ok (.aload_n 0, 1) := by decide +kernel
theorem d_Mo_would_43 : decode c_Mo_would 43 = .ok (.iload_n 1, 1) := by decide +kernel
theorem d_Mo_would_44 : decode c_Mo_would 44 = .ok (.iload_n 2, 1) := by decide +kernel
theorem d_Mo_would_45 : decode c_Mo_would 45 = .ok (.iload_n 3, 1) := by decide +kernel
theorem d_Mo_would_46 : decode c_Mo_would 46 = .ok (.invokevirtual 247, 3) := by decide +kernel
theorem d_Mo_would_49 : decode c_Mo_would 49 = .ok (.ireturn, 1) := by decide +kernel
set_option maxHeartbeats 4000000 in
set_option maxRecDepth 100000 in
theorem m_Mo_would {g0 : State} {d : zD} {l : Launch} {a0 : Array Value} (hs0 : zS0 d a0 g0) (hst : l.stackTraces = false) {G : zG} {B : Nat → Nat} {V : Nat → Nat → Int32} {nk ns ne ec : Nat} (hM : zM d B V nk ns ne ec G) (x set w : Int32) : zMet g0 d l y_Mo_would c_Mo_would 4 ((Option.some Jvm.ClassFile.FieldType.int)) 16 0 0 [.ref (B 0), .int x, .int set, .int w] (G) (mTp d B nk ns ne ec V G zrI) (zNo) := by
  have hnk : nk ≤ 8 := hM.2.1
  have hns : ns ≤ 6 := hM.2.2.1
  have hne : ne ≤ 64 := hM.2.2.2.1
  have hp2 : 2 ^ nk ≤ 256 := Nat.pow_le_pow_right (n := 2) (by decide) hnk
  refine z_entry hs0 hst (by decide) (Nat.le_of_ble_eq_true rfl) (fun p e s m args below meth c => ?_)
  refine z_aload_n 0 d_Mo_would_0 rfl rfl ?_
  refine z_iconst (v := 0) d_Mo_would_1 (by decide) ?_
  refine z_put zc_Mo 0 (by decide) qF_Mo_36 hM.mo rfl rfl rfl (Nat.le_of_ble_eq_true rfl) d_Mo_would_2 ?_
  obtain ⟨V1, hM1, hK1, hF1, hT1⟩ := hM.putT 0
  refine z_aload_n 0 d_Mo_would_5 rfl rfl ?_
  refine z_iload_n 1 d_Mo_would_6 rfl rfl ?_
  refine z_callV0 (m_Mo_isSecret hs0 hst hM1 x) ym_Mo_isSecret qM_Mo_147 qI_Mo_isSecret qV_Mo_Mo_isSecret zc_Mo hM1.mo d_Mo_would_7 rfl (Nat.le_of_ble_eq_true rfl) ⟨Nat.zero_le _, Nat.zero_le _⟩ ⟨Nat.le_of_ble_eq_true rfl, Nat.le_of_ble_eq_true rfl⟩ ?_
  refine z_if_ne 19 d_Mo_would_10 (by decide) (fun c_10 => ?_) (fun c_10 => ?_)
  · skip
    obtain ⟨si, hsi, rfl⟩ := zin_n ((zb_n0 _).mp c_10) (by omega)
    refine z_aload_n 0 d_Mo_would_19 rfl rfl ?_
    refine z_iload_n 2 d_Mo_would_20 rfl rfl ?_
    refine z_callV0 (m_Mo_isSet hs0 hst hM1 set) ym_Mo_isSet qM_Mo_129 qI_Mo_isSet qV_Mo_Mo_isSet zc_Mo hM1.mo d_Mo_would_21 rfl (Nat.le_of_ble_eq_true rfl) ⟨Nat.zero_le _, Nat.zero_le _⟩ ⟨Nat.le_of_ble_eq_true rfl, Nat.le_of_ble_eq_true rfl⟩ ?_
    refine z_if_eq 36 d_Mo_would_24 (by decide) (fun c_24 => ?_) (fun c_24 => ?_)
    · skip
      refine z_aload_n 0 d_Mo_would_36 rfl rfl ?_
      refine z_iconst (v := 2) d_Mo_would_37 (by decide) ?_
      refine z_callV0 (m_Mo_no hs0 hst hM1.mo 2) ym_Mo_no qM_Mo_119 qI_Mo_no qV_Mo_Mo_no zc_Mo hM1.mo d_Mo_would_38 rfl (Nat.le_of_ble_eq_true rfl) ⟨Nat.zero_le _, Nat.zero_le _⟩ ⟨Nat.le_of_ble_eq_true rfl, Nat.le_of_ble_eq_true rfl⟩ ?_
      obtain ⟨V9, hM9, hK9, hF9, hT9⟩ := hM1.putT 2
      exact z_iret rfl (⟨⟨_, rfl⟩, V9, hM9, hK1.tr hK9, hF1.tr hF9⟩) (by first | decide | omega) (by first | decide | omega) d_Mo_would_41
    · skip
      obtain ⟨g, hg, rfl⟩ := zsetok_le hnk ((zb_n0 _).mp c_24)
      refine z_iload_n 3 d_Mo_would_27 rfl rfl ?_
      refine z_iconst (v := 0) d_Mo_would_28 (by decide) ?_
      refine z_iconst (v := 5) d_Mo_would_29 (by decide) ?_
      refine z_callS0 (m_Mo_in hs0 hst w 0 _) ym_Mo_in qM_Mo_115 qS_Mo_in d_Mo_would_30 rfl (Nat.le_of_ble_eq_true rfl) ⟨Nat.zero_le _, Nat.zero_le _⟩ ⟨Nat.le_of_ble_eq_true rfl, Nat.le_of_ble_eq_true rfl⟩ ?_
      refine z_if_ne 42 d_Mo_would_33 (by decide) (fun c_33 => ?_) (fun c_33 => ?_)
      · skip
        refine z_aload_n 0 d_Mo_would_42 rfl rfl ?_
        refine z_iload_n 1 d_Mo_would_43 rfl rfl ?_
        refine z_iload_n 2 d_Mo_would_44 rfl rfl ?_
        refine z_iload_n 3 d_Mo_would_45 rfl rfl ?_
        refine z_callVp0 (m_Mo_wouldNow hs0 hst hM1 hsi hg w) ym_Mo_wouldNow qM_Mo_247 qI_Mo_wouldNow qV_Mo_Mo_wouldNow zc_Mo hM1.mo d_Mo_would_46 rfl (Nat.le_of_ble_eq_true rfl) ⟨Nat.zero_le _, Nat.zero_le _⟩ ⟨Nat.le_of_ble_eq_true rfl, Nat.le_of_ble_eq_true rfl⟩ (fun r_46 G_46 hp_46 => ?_)
        obtain ⟨⟨v_46, rfl⟩, V2, hM2, hK2, hF2⟩ := hp_46
        exact z_iret rfl (⟨⟨_, rfl⟩, V2, hM2, hK1.tr hK2.m.n, hF1.tr hF2⟩) (by first | decide | omega) (by first | decide | omega) d_Mo_would_49
      · skip
        refine z_aload_n 0 d_Mo_would_36 rfl rfl ?_
        refine z_iconst (v := 2) d_Mo_would_37 (by decide) ?_
        refine z_callV0 (m_Mo_no hs0 hst hM1.mo 2) ym_Mo_no qM_Mo_119 qI_Mo_no qV_Mo_Mo_no zc_Mo hM1.mo d_Mo_would_38 rfl (Nat.le_of_ble_eq_true rfl) ⟨Nat.zero_le _, Nat.zero_le _⟩ ⟨Nat.le_of_ble_eq_true rfl, Nat.le_of_ble_eq_true rfl⟩ ?_
        obtain ⟨V9, hM9, hK9, hF9, hT9⟩ := hM1.putT 2
        exact z_iret rfl (⟨⟨_, rfl⟩, V9, hM9, hK1.tr hK9, hF1.tr hF9⟩) (by first | decide | omega) (by first | decide | omega) d_Mo_would_41
  · skip
    refine z_aload_n 0 d_Mo_would_13 rfl rfl ?_
    refine z_iconst (v := 1) d_Mo_would_14 (by decide) ?_
    refine z_callV0 (m_Mo_no hs0 hst hM1.mo 1) ym_Mo_no qM_Mo_119 qI_Mo_no qV_Mo_Mo_no zc_Mo hM1.mo d_Mo_would_15 rfl (Nat.le_of_ble_eq_true rfl) ⟨Nat.zero_le _, Nat.zero_le _⟩ ⟨Nat.le_of_ble_eq_true rfl, Nat.le_of_ble_eq_true rfl⟩ ?_
    obtain ⟨V9, hM9, hK9, hF9, hT9⟩ := hM1.putT 1
    exact z_iret rfl (⟨⟨_, rfl⟩, V9, hM9, hK1.tr hK9, hF1.tr hF9⟩) (by first | decide | omega) (by first | decide | omega) d_Mo_would_18
theorem d_Mo_proves_0 : decode c_Mo_proves 0 = .ok (.aload_n 0, 1) := by decide +kernel
theorem d_Mo_proves_1 : decode c_Mo_proves 1 = .ok (.iconst 0, 1) := by decide +kernel
theorem d_Mo_proves_2 : decode c_Mo_proves 2 = .ok (.putfield 36, 3) := by decide +kernel
theorem d_Mo_proves_5 : decode c_Mo_proves 5 = .ok (.aload_n 0, 1) := by decide +kernel
theorem d_Mo_proves_6 : decode c_Mo_proves 6 = .ok (.iload_n 1, 1) := by decide +kernel
theorem d_Mo_proves_7 : decode c_Mo_proves 7 = .ok (.invokevirtual 228, 3) := by decide +kernel
theorem d_Mo_proves_10 : decode c_Mo_proves 10 = .ok (.ifCond .ne 17, 3) := by decide +kernel
theorem d_Mo_proves_13 : decode c_Mo_proves 13 = .ok (.aload_n 0, 1) := by decide +kernel
theorem d_Mo_proves_14 : decode c_Mo_proves 14 = .ok (.iconst 1, 1) := by decide +kernel
theorem d_Mo_proves_15 : decode c_Mo_proves 15 = .ok (.invokevirtual 119, 3) := by decide +kernel
theorem d_Mo_proves_18 : decode c_Mo_proves 18 = .ok (.ifCond .le 7, 3) := by decide +kernel
theorem d_Mo_proves_25 : decode c_Mo_proves 25 = .ok (.iconst 0, 1) := by decide +kernel
theorem d_Mo_proves_26 : decode c_Mo_proves 26 = .ok (.ireturn, 1) := by decide +kernel
theorem d_Mo_proves_27 : decode c_Mo_proves 27 = .ok (.iload_n 2, 1) := by decide +kernel
theorem d_Mo_proves_28 : decode c_Mo_proves 28 = .ok (.iconst 0, 1) := by decide +kernel
theorem d_Mo_proves_29 : decode c_Mo_proves 29 = .ok (.sipush 9972, 3) := by decide +kernel
theorem d_Mo_proves_32 : decode c_Mo_proves 32 = .ok (.invokestatic 115, 3) := by decide +kernel
theorem d_Mo_proves_35 : decode c_Mo_proves 35 = .ok (.ifCond .ne 17, 3) := by decide +kernel
theorem d_Mo_proves_38 : decode c_Mo_proves 38 = .ok (.aload_n 0, 1) := by decide +kernel
theorem d_Mo_proves_39 : decode c_Mo_proves 39 = .ok (.iconst 2, 1) := by decide +kernel
theorem d_Mo_proves_40 : decode c_Mo_proves 40 = .ok (.invokevirtual 119, 3) := by decide +kernel
theorem d_Mo_proves_43 : decode c_Mo_proves 43 = .ok (.ifCond .le 7, 3) := by decide +kernel
theorem d_Mo_proves_50 : decode c_Mo_proves 50 = .ok (.iconst 0, 1) := by decide +kernel
theorem d_Mo_proves_51 : decode c_Mo_proves 51 = .ok (.ireturn, 1) := by decide +kernel
theorem d_Mo_proves_52 : decode c_Mo_proves 52 = .ok (.aload_n 0, 1) := by decide +kernel
theorem d_Mo_proves_53 : decode c_Mo_proves 53 = .ok (.bipush 6, 2) := by decide +kernel
theorem d_Mo_proves_55 : decode c_Mo_proves 55 = .ok (.iconst 0, 1) := by decide +kernel
theorem d_Mo_proves_56 : decode c_Mo_proves 56 = .ok (.iload_n 1, 1) := by decide +kernel
theorem d_Mo_proves_57 : decode c_Mo_proves 57 = .ok (.iload_n 2, 1) := by decide +kernel
theorem d_Mo_proves_58 : decode c_Mo_proves 58 = .ok (.invokevirtual 218, 3) := by decide +kernel
theorem d_Mo_proves_61 : decode c_Mo_proves 61 = .ok (.aload_n 0, 1) := by decide +kernel
theorem d_Mo_proves_62 : decode c_Mo_proves 62 = .ok (.invokevirtual 222, 3) := by decide +kernel
theorem d_Mo_proves_65 : decode c_Mo_proves 65 = .ok (.if_icmp .ne 7, 3) := by decide +kernel
theorem d_Mo_proves_68 : decode c_Mo_proves 68 = .ok (.iconst 1, 1) := by decide +kernel
theorem d_Mo_proves_69 : decode c_Mo_proves 69 = .ok (.goto 4, 3) := by decide +kernel
theorem d_Mo_proves_72 : decode c_Mo_proves 72 = .ok (.iconst 0, 1) := by decide +kernel
theorem d_Mo_proves_73 : decode c_Mo_proves 73 = .ok (.ireturn, 1) := by decide +kernel
set_option maxHeartbeats 4000000 in
set_option maxRecDepth 100000 in
theorem m_Mo_proves {g0 : State} {d : zD} {l : Launch} {a0 : Array Value} (hs0 : zS0 d a0 g0) (hst : l.stackTraces = false) {G : zG} {B : Nat → Nat} {V : Nat → Nat → Int32} {nk ns ne ec : Nat} (hM : zM d B V nk ns ne ec G) (x w : Int32) : zMet g0 d l y_Mo_proves c_Mo_proves 3 ((Option.some Jvm.ClassFile.FieldType.boolean)) 22 0 0 [.ref (B 0), .int x, .int w] (G) (mTp d B nk ns ne ec V G zrB) (zNo) := by
  have hnk : nk ≤ 8 := hM.2.1
  have hns : ns ≤ 6 := hM.2.2.1
  have hne : ne ≤ 64 := hM.2.2.2.1
  have hp2 : 2 ^ nk ≤ 256 := Nat.pow_le_pow_right (n := 2) (by decide) hnk
  refine z_entry hs0 hst (by decide) (Nat.le_of_ble_eq_true rfl) (fun p e s m args below meth c => ?_)
  refine z_aload_n 0 d_Mo_proves_0 rfl rfl ?_
  refine z_iconst (v := 0) d_Mo_proves_1 (by decide) ?_
  refine z_put zc_Mo 0 (by decide) qF_Mo_36 hM.mo rfl rfl rfl (Nat.le_of_ble_eq_true rfl) d_Mo_proves_2 ?_
  obtain ⟨V1, hM1, hK1, hF1, hT1⟩ := hM.putT 0
  refine z_aload_n 0 d_Mo_proves_5 rfl rfl ?_
  refine z_iload_n 1 d_Mo_proves_6 rfl rfl ?_
  refine z_callV0 (m_Mo_isEntry hs0 hst hM1 x) ym_Mo_isEntry qM_Mo_228 qI_Mo_isEntry qV_Mo_Mo_isEntry zc_Mo hM1.mo d_Mo_proves_7 rfl (Nat.le_of_ble_eq_true rfl) ⟨Nat.zero_le _, Nat.zero_le _⟩ ⟨Nat.le_of_ble_eq_true rfl, Nat.le_of_ble_eq_true rfl⟩ ?_
  refine z_if_ne 27 d_Mo_proves_10 (by decide) (fun c_10 => ?_) (fun c_10 => ?_)
  · skip
    refine z_iload_n 2 d_Mo_proves_27 rfl rfl ?_
    refine z_iconst (v := 0) d_Mo_proves_28 (by decide) ?_
    refine z_sipush (v := 9972) d_Mo_proves_29 (by decide) ?_
    refine z_callS0 (m_Mo_in hs0 hst w 0 _) ym_Mo_in qM_Mo_115 qS_Mo_in d_Mo_proves_32 rfl (Nat.le_of_ble_eq_true rfl) ⟨Nat.zero_le _, Nat.zero_le _⟩ ⟨Nat.le_of_ble_eq_true rfl, Nat.le_of_ble_eq_true rfl⟩ ?_
    refine z_if_ne 52 d_Mo_proves_35 (by decide) (fun c_35 => ?_) (fun c_35 => ?_)
    · skip
      refine z_aload_n 0 d_Mo_proves_52 rfl rfl ?_
      refine z_bipush (v := (nI 6)) d_Mo_proves_53 (by decide) ?_
      refine z_iconst (v := (nI 0)) d_Mo_proves_55 (by decide) ?_
      refine z_iload_n 1 d_Mo_proves_56 rfl rfl ?_
      refine z_iload_n 2 d_Mo_proves_57 rfl rfl ?_
      refine z_callVp0 ((m_Mo_node_6 hs0 hst hM1 (kk := 0) (by decide) _ _)) ym_Mo_node qM_Mo_218 qI_Mo_node qV_Mo_Mo_node zc_Mo hM1.mo d_Mo_proves_58 rfl (Nat.le_of_ble_eq_true rfl) ⟨Nat.zero_le _, Nat.zero_le _⟩ ⟨Nat.le_of_ble_eq_true rfl, Nat.le_of_ble_eq_true rfl⟩ (fun r_58 G_58 hp_58 => ?_)
      obtain ⟨⟨v_58, rfl⟩, rfl⟩ := hp_58
      refine z_aload_n 0 d_Mo_proves_61 rfl rfl ?_
      refine z_callVp0 (m_Mo_root hs0 hst hM1) ym_Mo_root qM_Mo_222 qI_Mo_root qV_Mo_Mo_root zc_Mo hM1.mo d_Mo_proves_62 rfl (Nat.le_of_ble_eq_true rfl) ⟨Nat.zero_le _, Nat.zero_le _⟩ ⟨Nat.le_of_ble_eq_true rfl, Nat.le_of_ble_eq_true rfl⟩ (fun r_62 G_62 hp_62 => ?_)
      obtain ⟨⟨v_62, rfl⟩, rfl⟩ := hp_62
      refine z_icmp_ne 72 d_Mo_proves_65 (by decide) (fun c_65 => ?_) (fun c_65 => ?_)
      · skip
        refine z_iconst (v := 0) d_Mo_proves_72 (by decide) ?_
        exact z_zret rfl (by first | rfl | exact zb_nar _) (by first | exact ⟨⟨true, rfl⟩, V1, hM1, hK1, hF1⟩ | exact ⟨⟨false, rfl⟩, V1, hM1, hK1, hF1⟩) (by first | decide | omega) (by first | decide | omega) d_Mo_proves_73
      · skip
        refine z_iconst (v := 1) d_Mo_proves_68 (by decide) ?_
        refine z_goto 73 d_Mo_proves_69 (by decide) ?_
        exact z_zret rfl (by first | rfl | exact zb_nar _) (by first | exact ⟨⟨true, rfl⟩, V1, hM1, hK1, hF1⟩ | exact ⟨⟨false, rfl⟩, V1, hM1, hK1, hF1⟩) (by first | decide | omega) (by first | decide | omega) d_Mo_proves_73
    · skip
      refine z_aload_n 0 d_Mo_proves_38 rfl rfl ?_
      refine z_iconst (v := 2) d_Mo_proves_39 (by decide) ?_
      refine z_callV0 (m_Mo_no hs0 hst hM1.mo 2) ym_Mo_no qM_Mo_119 qI_Mo_no qV_Mo_Mo_no zc_Mo hM1.mo d_Mo_proves_40 rfl (Nat.le_of_ble_eq_true rfl) ⟨Nat.zero_le _, Nat.zero_le _⟩ ⟨Nat.le_of_ble_eq_true rfl, Nat.le_of_ble_eq_true rfl⟩ ?_
      obtain ⟨V9, hM9, hK9, hF9, hT9⟩ := hM1.putT 2
      refine z_if_le 50 d_Mo_proves_43 (by decide) (fun c_43 => ?_) (fun c_43 => absurd (by decide) c_43)
      refine z_iconst (v := 0) d_Mo_proves_50 (by decide) ?_
      exact z_zret rfl (by first | rfl | exact zb_nar _) (⟨⟨false, rfl⟩, V9, hM9, hK1.tr hK9, hF1.tr hF9⟩) (by first | decide | omega) (by first | decide | omega) d_Mo_proves_51
  · skip
    refine z_aload_n 0 d_Mo_proves_13 rfl rfl ?_
    refine z_iconst (v := 1) d_Mo_proves_14 (by decide) ?_
    refine z_callV0 (m_Mo_no hs0 hst hM1.mo 1) ym_Mo_no qM_Mo_119 qI_Mo_no qV_Mo_Mo_no zc_Mo hM1.mo d_Mo_proves_15 rfl (Nat.le_of_ble_eq_true rfl) ⟨Nat.zero_le _, Nat.zero_le _⟩ ⟨Nat.le_of_ble_eq_true rfl, Nat.le_of_ble_eq_true rfl⟩ ?_
    obtain ⟨V9, hM9, hK9, hF9, hT9⟩ := hM1.putT 1
    refine z_if_le 25 d_Mo_proves_18 (by decide) (fun c_18 => ?_) (fun c_18 => absurd (by decide) c_18)
    refine z_iconst (v := 0) d_Mo_proves_25 (by decide) ?_
    exact z_zret rfl (by first | rfl | exact zb_nar _) (⟨⟨false, rfl⟩, V9, hM9, hK1.tr hK9, hF1.tr hF9⟩) (by first | decide | omega) (by first | decide | omega) d_Mo_proves_26
theorem d_Mo_lost_0 : decode c_Mo_lost 0 = .ok (.aload_n 0, 1) := by decide +kernel
theorem d_Mo_lost_1 : decode c_Mo_lost 1 = .ok (.iconst 0, 1) := by decide +kernel
theorem d_Mo_lost_2 : decode c_Mo_lost 2 = .ok (.putfield 36, 3) := by decide +kernel
theorem d_Mo_lost_5 : decode c_Mo_lost 5 = .ok (.aload_n 0, 1) := by decide +kernel
theorem d_Mo_lost_6 : decode c_Mo_lost 6 = .ok (.iload_n 1, 1) := by decide +kernel
theorem d_Mo_lost_7 : decode c_Mo_lost 7 = .ok (.invokevirtual 147, 3) := by decide +kernel
theorem d_Mo_lost_10 : decode c_Mo_lost 10 = .ok (.ifCond .ne 10, 3) := by decide +kernel
theorem d_Mo_lost_13 : decode c_Mo_lost 13 = .ok (.aload_n 0, 1) := by decide +kernel
theorem d_Mo_lost_14 : decode c_Mo_lost 14 = .ok (.iconst 1, 1) := by decide +kernel
theorem d_Mo_lost_15 : decode c_Mo_lost 15 = .ok (.putfield 36, 3) := by decide +kernel
theorem d_Mo_lost_18 : decode c_Mo_lost 18 = .ok (.dconst 0, 1) := by decide +kernel
theorem d_Mo_lost_19 : decode c_Mo_lost 19 = .ok (.dreturn, 1) := by decide +kernel
theorem d_Mo_lost_20 : decode c_Mo_lost 20 = .ok (.aload_n 0, 1) := by decide +kernel
theorem d_Mo_lost_21 : decode c_Mo_lost 21 = .ok (.iload_n 1, 1) := by decide +kernel
theorem d_Mo_lost_22 : decode c_Mo_lost 22 = .ok (.invokevirtual 252, 3) := by decide +kernel
theorem d_Mo_lost_25 : decode c_Mo_lost 25 = .ok (.dreturn, 1) := by decide +kernel
set_option maxHeartbeats 4000000 in
set_option maxRecDepth 100000 in
theorem m_Mo_lost {g0 : State} {d : zD} {l : Launch} {a0 : Array Value} (hs0 : zS0 d a0 g0) (hst : l.stackTraces = false) {G : zG} {B : Nat → Nat} {V : Nat → Nat → Int32} {nk ns ne ec : Nat} (hM : zM d B V nk ns ne ec G) (x : Int32) : zMet g0 d l y_Mo_lost c_Mo_lost 2 ((Option.some Jvm.ClassFile.FieldType.double)) 12 1 9 [.ref (B 0), .int x] (G) (mTp d B nk ns ne ec V G zrW) (zNo) := by
  have hnk : nk ≤ 8 := hM.2.1
  have hns : ns ≤ 6 := hM.2.2.1
  have hne : ne ≤ 64 := hM.2.2.2.1
  have hp2 : 2 ^ nk ≤ 256 := Nat.pow_le_pow_right (n := 2) (by decide) hnk
  refine z_entry hs0 hst (by decide) (Nat.le_of_ble_eq_true rfl) (fun p e s m args below meth c => ?_)
  refine z_aload_n 0 d_Mo_lost_0 rfl rfl ?_
  refine z_iconst (v := 0) d_Mo_lost_1 (by decide) ?_
  refine z_put zc_Mo 0 (by decide) qF_Mo_36 hM.mo rfl rfl rfl (Nat.le_of_ble_eq_true rfl) d_Mo_lost_2 ?_
  obtain ⟨V1, hM1, hK1, hF1, hT1⟩ := hM.putT 0
  refine z_aload_n 0 d_Mo_lost_5 rfl rfl ?_
  refine z_iload_n 1 d_Mo_lost_6 rfl rfl ?_
  refine z_callV0 (m_Mo_isSecret hs0 hst hM1 x) ym_Mo_isSecret qM_Mo_147 qI_Mo_isSecret qV_Mo_Mo_isSecret zc_Mo hM1.mo d_Mo_lost_7 rfl (Nat.le_of_ble_eq_true rfl) ⟨by decide, by decide⟩ ⟨Nat.le_of_ble_eq_true rfl, Nat.le_of_ble_eq_true rfl⟩ ?_
  refine z_if_ne 20 d_Mo_lost_10 (by decide) (fun c_10 => ?_) (fun c_10 => ?_)
  · skip
    obtain ⟨si, hsi, rfl⟩ := zin_n ((zb_n0 _).mp c_10) (by omega)
    refine z_aload_n 0 d_Mo_lost_20 rfl rfl ?_
    refine z_iload_n 1 d_Mo_lost_21 rfl rfl ?_
    refine z_callVp1 (m_Mo_lostNow hs0 hst hM1 hsi) ym_Mo_lostNow qM_Mo_252 qI_Mo_lostNow qV_Mo_Mo_lostNow zc_Mo hM1.mo d_Mo_lost_22 rfl (Nat.le_of_ble_eq_true rfl) ⟨by decide, by decide⟩ ⟨Nat.le_of_ble_eq_true rfl, Nat.le_of_ble_eq_true rfl⟩ (fun r_22 G_22 hp_22 => ?_)
    obtain ⟨⟨u9, rfl, hu9⟩, V2, hM2, hK2, hF2⟩ := hp_22
    exact z_dret rfl (⟨⟨_, rfl⟩, V2, hM2, hK1.tr hK2.m.n, hF1.tr hF2⟩) (by first | decide | omega) (by first | decide | omega) d_Mo_lost_25
  · skip
    refine z_aload_n 0 d_Mo_lost_13 rfl rfl ?_
    refine z_iconst (v := 1) d_Mo_lost_14 (by decide) ?_
    refine z_put zc_Mo 0 (by decide) qF_Mo_36 hM1.mo rfl rfl rfl (Nat.le_of_ble_eq_true rfl) d_Mo_lost_15 ?_
    obtain ⟨V9, hM9, hK9, hF9, hT9⟩ := hM1.putT 1
    refine z_dconst0 d_Mo_lost_18 ?_
    exact z_dret rfl (⟨⟨_, rfl⟩, V9, hM9, hK1.tr hK9, hF1.tr hF9⟩) (by first | decide | omega) (by first | decide | omega) d_Mo_lost_19
theorem d_Mo_fewest_0 : decode c_Mo_fewest 0 = .ok (.aload_n 0, 1) := by decide +kernel
theorem d_Mo_fewest_1 : decode c_Mo_fewest 1 = .ok (.iconst 0, 1) := by decide +kernel
theorem d_Mo_fewest_2 : decode c_Mo_fewest 2 = .ok (.putfield 36, 3) := by decide +kernel
theorem d_Mo_fewest_5 : decode c_Mo_fewest 5 = .ok (.aload_n 0, 1) := by decide +kernel
theorem d_Mo_fewest_6 : decode c_Mo_fewest 6 = .ok (.iload_n 1, 1) := by decide +kernel
theorem d_Mo_fewest_7 : decode c_Mo_fewest 7 = .ok (.invokevirtual 147, 3) := by decide +kernel
theorem d_Mo_fewest_10 : decode c_Mo_fewest 10 = .ok (.ifCond .ne 9, 3) := by decide +kernel
theorem d_Mo_fewest_13 : decode c_Mo_fewest 13 = .ok (.aload_n 0, 1) := by decide +kernel
theorem d_Mo_fewest_14 : decode c_Mo_fewest 14 = .ok (.iconst 1, 1) := by decide +kernel
theorem d_Mo_fewest_15 : decode c_Mo_fewest 15 = .ok (.invokevirtual 119, 3) := by decide +kernel
theorem d_Mo_fewest_18 : decode c_Mo_fewest 18 = .ok (.ireturn, 1) := by decide +kernel
theorem d_Mo_fewest_19 : decode c_Mo_fewest 19 = .ok (.aload_n 0, 1) := by decide +kernel
theorem d_Mo_fewest_20 : decode c_Mo_fewest 20 = .ok (.iload_n 1, 1) := by decide +kernel
theorem d_Mo_fewest_21 : decode c_Mo_fewest 21 = .ok (.invokevirtual 256, 3) := by decide +kernel
theorem d_Mo_fewest_24 : decode c_Mo_fewest 24 = .ok (.ireturn, 1) := by decide +kernel
set_option maxHeartbeats 4000000 in
set_option maxRecDepth 100000 in
theorem m_Mo_fewest {g0 : State} {d : zD} {l : Launch} {a0 : Array Value} (hs0 : zS0 d a0 g0) (hst : l.stackTraces = false) {G : zG} {B : Nat → Nat} {V : Nat → Nat → Int32} {nk ns ne ec : Nat} (hM : zM d B V nk ns ne ec G) (x : Int32) : zMet g0 d l y_Mo_fewest c_Mo_fewest 2 ((Option.some Jvm.ClassFile.FieldType.int)) 13 0 0 [.ref (B 0), .int x] (G) (mTp d B nk ns ne ec V G zrI) (zNo) := by
  have hnk : nk ≤ 8 := hM.2.1
  have hns : ns ≤ 6 := hM.2.2.1
  have hne : ne ≤ 64 := hM.2.2.2.1
  have hp2 : 2 ^ nk ≤ 256 := Nat.pow_le_pow_right (n := 2) (by decide) hnk
  refine z_entry hs0 hst (by decide) (Nat.le_of_ble_eq_true rfl) (fun p e s m args below meth c => ?_)
  refine z_aload_n 0 d_Mo_fewest_0 rfl rfl ?_
  refine z_iconst (v := 0) d_Mo_fewest_1 (by decide) ?_
  refine z_put zc_Mo 0 (by decide) qF_Mo_36 hM.mo rfl rfl rfl (Nat.le_of_ble_eq_true rfl) d_Mo_fewest_2 ?_
  obtain ⟨V1, hM1, hK1, hF1, hT1⟩ := hM.putT 0
  refine z_aload_n 0 d_Mo_fewest_5 rfl rfl ?_
  refine z_iload_n 1 d_Mo_fewest_6 rfl rfl ?_
  refine z_callV0 (m_Mo_isSecret hs0 hst hM1 x) ym_Mo_isSecret qM_Mo_147 qI_Mo_isSecret qV_Mo_Mo_isSecret zc_Mo hM1.mo d_Mo_fewest_7 rfl (Nat.le_of_ble_eq_true rfl) ⟨Nat.zero_le _, Nat.zero_le _⟩ ⟨Nat.le_of_ble_eq_true rfl, Nat.le_of_ble_eq_true rfl⟩ ?_
  refine z_if_ne 19 d_Mo_fewest_10 (by decide) (fun c_10 => ?_) (fun c_10 => ?_)
  · skip
    obtain ⟨si, hsi, rfl⟩ := zin_n ((zb_n0 _).mp c_10) (by omega)
    refine z_aload_n 0 d_Mo_fewest_19 rfl rfl ?_
    refine z_iload_n 1 d_Mo_fewest_20 rfl rfl ?_
    refine z_callVp0 (m_Mo_fewestNow hs0 hst hM1 hsi) ym_Mo_fewestNow qM_Mo_256 qI_Mo_fewestNow qV_Mo_Mo_fewestNow zc_Mo hM1.mo d_Mo_fewest_21 rfl (Nat.le_of_ble_eq_true rfl) ⟨Nat.zero_le _, Nat.zero_le _⟩ ⟨Nat.le_of_ble_eq_true rfl, Nat.le_of_ble_eq_true rfl⟩ (fun r_21 G_21 hp_21 => ?_)
    obtain ⟨⟨v_21, rfl⟩, rfl⟩ := hp_21
    exact z_iret rfl (⟨⟨_, rfl⟩, V1, hM1, hK1, hF1⟩) (by first | decide | omega) (by first | decide | omega) d_Mo_fewest_24
  · skip
    refine z_aload_n 0 d_Mo_fewest_13 rfl rfl ?_
    refine z_iconst (v := 1) d_Mo_fewest_14 (by decide) ?_
    refine z_callV0 (m_Mo_no hs0 hst hM1.mo 1) ym_Mo_no qM_Mo_119 qI_Mo_no qV_Mo_Mo_no zc_Mo hM1.mo d_Mo_fewest_15 rfl (Nat.le_of_ble_eq_true rfl) ⟨Nat.zero_le _, Nat.zero_le _⟩ ⟨Nat.le_of_ble_eq_true rfl, Nat.le_of_ble_eq_true rfl⟩ ?_
    obtain ⟨V9, hM9, hK9, hF9, hT9⟩ := hM1.putT 1
    exact z_iret rfl (⟨⟨_, rfl⟩, V9, hM9, hK1.tr hK9, hF1.tr hF9⟩) (by first | decide | omega) (by first | decide | omega) d_Mo_fewest_18
theorem d_Mo_isSound_0 : decode c_Mo_isSound 0 = .ok (.aload_n 0, 1) := by decide +kernel
theorem d_Mo_isSound_1 : decode c_Mo_isSound 1 = .ok (.iconst 0, 1) := by decide +kernel
theorem d_Mo_isSound_2 : decode c_Mo_isSound 2 = .ok (.putfield 36, 3) := by decide +kernel
theorem d_Mo_isSound_5 : decode c_Mo_isSound 5 = .ok (.aload_n 0, 1) := by decide +kernel
theorem d_Mo_isSound_6 : decode c_Mo_isSound 6 = .ok (.invokevirtual 263, 3) := by decide +kernel
theorem d_Mo_isSound_9 : decode c_Mo_isSound 9 = .ok (.ireturn, 1) := by decide +kernel
set_option maxHeartbeats 4000000 in
set_option maxRecDepth 100000 in
theorem m_Mo_isSound {g0 : State} {d : zD} {l : Launch} {a0 : Array Value} (hs0 : zS0 d a0 g0) (hst : l.stackTraces = false) {G : zG} {B : Nat → Nat} {V : Nat → Nat → Int32} {nk ns ne ec : Nat} (hM : zM d B V nk ns ne ec G) : zMet g0 d l y_Mo_isSound c_Mo_isSound 1 ((Option.some Jvm.ClassFile.FieldType.boolean)) 12 12 96 [.ref (B 0)] (G) (mTp d B nk ns ne ec V G zrB) (zNo) := by
  have hnk : nk ≤ 8 := hM.2.1
  have hns : ns ≤ 6 := hM.2.2.1
  have hne : ne ≤ 64 := hM.2.2.2.1
  have hp2 : 2 ^ nk ≤ 256 := Nat.pow_le_pow_right (n := 2) (by decide) hnk
  refine z_entry hs0 hst (by decide) (Nat.le_of_ble_eq_true rfl) (fun p e s m args below meth c => ?_)
  refine z_aload_n 0 d_Mo_isSound_0 rfl rfl ?_
  refine z_iconst (v := 0) d_Mo_isSound_1 (by decide) ?_
  refine z_put zc_Mo 0 (by decide) qF_Mo_36 hM.mo rfl rfl rfl (Nat.le_of_ble_eq_true rfl) d_Mo_isSound_2 ?_
  obtain ⟨V1, hM1, hK1, hF1, hT1⟩ := hM.putT 0
  refine z_aload_n 0 d_Mo_isSound_5 rfl rfl ?_
  refine z_callVp1 (m_Mo_isSoundNow hs0 hst hM1) ym_Mo_isSoundNow qM_Mo_263 qI_Mo_isSoundNow qV_Mo_Mo_isSoundNow zc_Mo hM1.mo d_Mo_isSound_6 rfl (Nat.le_of_ble_eq_true rfl) ⟨by decide, by decide⟩ ⟨Nat.le_of_ble_eq_true rfl, Nat.le_of_ble_eq_true rfl⟩ (fun r_6 G_6 hp_6 => ?_)
  obtain ⟨⟨b_6, rfl⟩, V2, hM2, hK2, hF2⟩ := hp_6
  exact z_zret rfl (by first | rfl | exact zb_nar _) (⟨⟨_, rfl⟩, V2, hM2, hK1.tr hK2.m.n, hF1.tr hF2⟩) (by first | decide | omega) (by first | decide | omega) d_Mo_isSound_9
theorem d_Mo_may_0 : decode c_Mo_may 0 = .ok (.aload_n 0, 1) := by decide +kernel
theorem d_Mo_may_1 : decode c_Mo_may 1 = .ok (.iconst 0, 1) := by decide +kernel
theorem d_Mo_may_2 : decode c_Mo_may 2 = .ok (.putfield 36, 3) := by decide +kernel
theorem d_Mo_may_5 : decode c_Mo_may 5 = .ok (.aload_n 0, 1) := by decide +kernel
theorem d_Mo_may_6 : decode c_Mo_may 6 = .ok (.iload_n 1, 1) := by decide +kernel
theorem d_Mo_may_7 : decode c_Mo_may 7 = .ok (.invokevirtual 147, 3) := by decide +kernel
theorem d_Mo_may_10 : decode c_Mo_may 10 = .ok (.ifCond .ne 17, 3) := by decide +kernel
theorem d_Mo_may_13 : decode c_Mo_may 13 = .ok (.aload_n 0, 1) := by decide +kernel
theorem d_Mo_may_14 : decode c_Mo_may 14 = .ok (.iconst 1, 1) := by decide +kernel
theorem d_Mo_may_15 : decode c_Mo_may 15 = .ok (.invokevirtual 119, 3) := by decide +kernel
theorem d_Mo_may_18 : decode c_Mo_may 18 = .ok (.ifCond .le 7, 3) := by decide +kernel
theorem d_Mo_may_25 : decode c_Mo_may 25 = .ok (.iconst 0, 1) := by decide +kernel
theorem d_Mo_may_26 : decode c_Mo_may 26 = .ok (.ireturn, 1) := by decide +kernel
theorem d_Mo_may_27 : decode c_Mo_may 27 = .ok (.aload_n 0, 1) := by decide +kernel
theorem d_Mo_may_28 : decode c_Mo_may 28 = .ok (.iload_n 2, 1) := by decide +kernel
theorem d_Mo_may_29 : decode c_Mo_may 29 = .ok (.invokevirtual 129, 3) := by decide +kernel
theorem d_Mo_may_32 : decode c_Mo_may 32 = .ok (.ifCond .eq 13, 3) := by decide +kernel
theorem d_Mo_may_35 : decode c_Mo_may 35 = .ok (.iload_n 3, 1) := by decide +kernel
theorem d_Mo_may_36 : decode c_Mo_may 36 = .ok (.iconst 0, 1) := by decide +kernel
theorem d_Mo_may_37 : decode c_Mo_may 37 = .ok (.bipush 96, 2) := by decide +kernel
theorem d_Mo_may_39 : decode c_Mo_may 39 = .ok (.invokestatic 115, 3) := by decide +kernel
theorem d_Mo_may_42 : decode c_Mo_may 42 = .ok (.ifCond .ne 17, 3) := by decide +kernel
theorem d_Mo_may_45 : decode c_Mo_may 45 = .ok (.aload_n 0, 1) := by decide +kernel
theorem d_Mo_may_46 : decode c_Mo_may 46 = .ok (.iconst 2, 1) := by decide +kernel
theorem d_Mo_may_47 : decode c_Mo_may 47 = .ok (.invokevirtual 119, 3) := by decide +kernel
theorem d_Mo_may_50 : decode c_Mo_may 50 = .ok (.ifCond .le 7, 3) := by decide +kernel
theorem d_Mo_may_57 : decode c_Mo_may 57 = .ok (.iconst 0, 1) := by decide +kernel
theorem d_Mo_may_58 : decode c_Mo_may 58 = .ok (.ireturn, 1) := by decide +kernel
theorem d_Mo_may_59 : decode c_Mo_may 59 = .ok (.aload_n 0, 1) := by decide +kernel
theorem d_Mo_may_60 : decode c_Mo_may 60 = .ok (.getfield 20, 3) := by decide +kernel
theorem d_Mo_may_63 : decode c_Mo_may 63 = .ok (.iload_n 1, 1) := by decide +kernel
theorem d_Mo_may_64 : decode c_Mo_may 64 = .ok (.invokeinterface 51 2, 5) := by decide +kernel
theorem d_Mo_may_69 : decode c_Mo_may 69 = .ok (.checkcast 47, 3) := by decide +kernel
theorem d_Mo_may_72 : decode c_Mo_may 72 = .ok (.astore 4, 2) := by decide +kernel
theorem d_Mo_may_74 : decode c_Mo_may 74 = .ok (.bipush 9, 2) := by decide +kernel
theorem d_Mo_may_76 : decode c_Mo_may 76 = .ok (.newarray .int, 2) := by decide +kernel
theorem d_Mo_may_78 : decode c_Mo_may 78 = .ok (.astore 5, 2) := by decide +kernel
theorem d_Mo_may_80 : decode c_Mo_may 80 = .ok (.bipush 9, 2) := by decide +kernel
theorem d_Mo_may_82 : decode c_Mo_may 82 = .ok (.newarray .int, 2) := by decide +kernel
theorem d_Mo_may_84 : decode c_Mo_may 84 = .ok (.astore 6, 2) := by decide +kernel
theorem d_Mo_may_86 : decode c_Mo_may 86 = .ok (.aload 6, 2) := by decide +kernel
theorem d_Mo_may_88 : decode c_Mo_may 88 = .ok (.iconst 0, 1) := by decide +kernel
theorem d_Mo_may_89 : decode c_Mo_may 89 = .ok (.iload_n 3, 1) := by decide +kernel
theorem d_Mo_may_90 : decode c_Mo_may 90 = .ok (.iastore, 1) := by decide +kernel
theorem d_Mo_may_91 : decode c_Mo_may 91 = .ok (.iconst 1, 1) := by decide +kernel
theorem d_Mo_may_92 : decode c_Mo_may 92 = .ok (.istore 7, 2) := by decide +kernel
theorem d_Mo_may_94 : decode c_Mo_may 94 = .ok (.aload_n 0, 1) := by decide +kernel
theorem d_Mo_may_95 : decode c_Mo_may 95 = .ok (.aload 4, 2) := by decide +kernel
theorem d_Mo_may_97 : decode c_Mo_may 97 = .ok (.iload_n 2, 1) := by decide +kernel
theorem d_Mo_may_98 : decode c_Mo_may 98 = .ok (.invokevirtual 150, 3) := by decide +kernel
theorem d_Mo_may_101 : decode c_Mo_may 101 = .ok (.istore 8, 2) := by decide +kernel
theorem d_Mo_may_103 : decode c_Mo_may 103 = .ok (.iconst 0, 1) := by decide +kernel
theorem d_Mo_may_104 : decode c_Mo_may 104 = .ok (.istore 9, 2) := by decide +kernel
theorem d_Mo_may_106 : decode c_Mo_may 106 = .ok (.iload 9, 2) := by decide +kernel
theorem d_Mo_may_108 : decode c_Mo_may 108 = .ok (.bipush 8, 2) := by decide +kernel
theorem d_Mo_may_110 : decode c_Mo_may 110 = .ok (.if_icmp .ge 97, 3) := by decide +kernel
theorem d_Mo_may_113 : decode c_Mo_may 113 = .ok (.iload 8, 2) := by decide +kernel
theorem d_Mo_may_115 : decode c_Mo_may 115 = .ok (.iload 9, 2) := by decide +kernel
theorem d_Mo_may_117 : decode c_Mo_may 117 = .ok (.invokestatic 76, 3) := by decide +kernel
theorem d_Mo_may_120 : decode c_Mo_may 120 = .ok (.ifCond .ne 6, 3) := by decide +kernel
theorem d_Mo_may_123 : decode c_Mo_may 123 = .ok (.goto 78, 3) := by decide +kernel
theorem d_Mo_may_126 : decode c_Mo_may 126 = .ok (.iload 7, 2) := by decide +kernel
theorem d_Mo_may_128 : decode c_Mo_may 128 = .ok (.aload 4, 2) := by decide +kernel
theorem d_Mo_may_130 : decode c_Mo_may 130 = .ok (.getfield 69, 3) := by decide +kernel
theorem d_Mo_may_133 : decode c_Mo_may 133 = .ok (.if_icmp .ne 30, 3) := by decide +kernel
theorem d_Mo_may_136 : decode c_Mo_may 136 = .ok (.aload_n 0, 1) := by decide +kernel
theorem d_Mo_may_137 : decode c_Mo_may 137 = .ok (.aload 5, 2) := by decide +kernel
theorem d_Mo_may_139 : decode c_Mo_may 139 = .ok (.aload 6, 2) := by decide +kernel
theorem d_Mo_may_141 : decode c_Mo_may 141 = .ok (.iload 7, 2) := by decide +kernel
theorem d_Mo_may_143 : decode c_Mo_may 143 = .ok (.iload 9, 2) := by decide +kernel
theorem d_Mo_may_145 : decode c_Mo_may 145 = .ok (.iconst 1, 1) := by decide +kernel
theorem d_Mo_may_146 : decode c_Mo_may 146 = .ok (.iadd, 1) := by decide +kernel
theorem d_Mo_may_147 : decode c_Mo_may 147 = .ok (.invokevirtual 84, 3) := by decide +kernel
theorem d_Mo_may_150 : decode c_Mo_may 150 = .ok (.aload_n 0, 1) := by decide +kernel
theorem d_Mo_may_151 : decode c_Mo_may 151 = .ok (.aload 4, 2) := by decide +kernel
theorem d_Mo_may_153 : decode c_Mo_may 153 = .ok (.iload 9, 2) := by decide +kernel
theorem d_Mo_may_155 : decode c_Mo_may 155 = .ok (.invokevirtual 80, 3) := by decide +kernel
theorem d_Mo_may_158 : decode c_Mo_may 158 = .ok (.if_icmp .eq 5, 3) := by decide +kernel
theorem d_Mo_may_161 : decode c_Mo_may 161 = .ok (.iconst 0, 1) := by decide +kernel
theorem d_Mo_may_162 : decode c_Mo_may 162 = .ok (.ireturn, 1) := by decide +kernel
theorem d_Mo_may_163 : decode c_Mo_may 163 = .ok (.iload 7, 2) := by decide +kernel
theorem d_Mo_may_165 : decode c_Mo_may 165 = .ok (.aload 4, 2) := by decide +kernel
theorem d_Mo_may_167 : decode c_Mo_may 167 = .ok (.getfield 69, 3) := by decide +kernel
theorem d_Mo_may_170 : decode c_Mo_may 170 = .ok (.if_icmp .ne 6, 3) := by decide +kernel
theorem d_Mo_may_173 : decode c_Mo_may 173 = .ok (.goto 28, 3) := by decide +kernel
theorem d_Mo_may_176 : decode c_Mo_may 176 = .ok (.aload 5, 2) := by decide +kernel
theorem d_Mo_may_178 : decode c_Mo_may 178 = .ok (.iload 7, 2) := by decide +kernel
theorem d_Mo_may_180 : decode c_Mo_may 180 = .ok (.iload 9, 2) := by decide +kernel
theorem d_Mo_may_182 : decode c_Mo_may 182 = .ok (.iconst 1, 1) := by decide +kernel
theorem d_Mo_may_183 : decode c_Mo_may 183 = .ok (.iadd, 1) := by decide +kernel
theorem d_Mo_may_184 : decode c_Mo_may 184 = .ok (.iastore, 1) := by decide +kernel
theorem d_Mo_may_185 : decode c_Mo_may 185 = .ok (.aload 6, 2) := by decide +kernel
theorem d_Mo_may_187 : decode c_Mo_may 187 = .ok (.iload 7, 2) := by decide +kernel
theorem d_Mo_may_189 : decode c_Mo_may 189 = .ok (.aload_n 0, 1) := by decide +kernel
theorem d_Mo_may_190 : decode c_Mo_may 190 = .ok (.aload 4, 2) := by decide +kernel
theorem d_Mo_may_192 : decode c_Mo_may 192 = .ok (.iload 9, 2) := by decide +kernel
theorem d_Mo_may_194 : decode c_Mo_may 194 = .ok (.invokevirtual 80, 3) := by decide +kernel
theorem d_Mo_may_197 : decode c_Mo_may 197 = .ok (.iastore, 1) := by decide +kernel
theorem d_Mo_may_198 : decode c_Mo_may 198 = .ok (.iinc 7 1, 3) := by decide +kernel
theorem d_Mo_may_201 : decode c_Mo_may 201 = .ok (.iinc 9 1, 3) := by decide +kernel
theorem d_Mo_may_204 : decode c_Mo_may 204 = .ok (.goto (-98), 3) := by decide +kernel
theorem d_Mo_may_207 : decode c_Mo_may 207 = .ok (.iconst 1, 1) := by decide +kernel
theorem d_Mo_may_208 : decode c_Mo_may 208 = .ok (.ireturn, 1) := by decide +kernel
set_option maxHeartbeats 4000000 in
set_option maxRecDepth 100000 in
theorem m_Mo_may {g0 : State} {d : zD} {l : Launch} {a0 : Array Value} (hs0 : zS0 d a0 g0) (hst : l.stackTraces = false) {G : zG} {B : Nat → Nat} {V : Nat → Nat → Int32} {nk ns ne ec : Nat} (hM : zM d B V nk ns ne ec G) (x set w : Int32) : zMet g0 d l y_Mo_may c_Mo_may 10 ((Option.some Jvm.ClassFile.FieldType.boolean)) 12 2 18 [.ref (B 0), .int x, .int set, .int w] (G) (mTp d B nk ns ne ec V G zrB) (zNo) := by
  have hnk : nk ≤ 8 := hM.2.1
  have hns : ns ≤ 6 := hM.2.2.1
  have hne : ne ≤ 64 := hM.2.2.2.1
  have hp2 : 2 ^ nk ≤ 256 := Nat.pow_le_pow_right (n := 2) (by decide) hnk
  refine z_entry hs0 hst (by decide) (Nat.le_of_ble_eq_true rfl) (fun p e s m args below meth c => ?_)
  refine z_aload_n 0 d_Mo_may_0 rfl rfl ?_
  refine z_iconst (v := 0) d_Mo_may_1 (by decide) ?_
  refine z_put zc_Mo 0 (by decide) qF_Mo_36 hM.mo rfl rfl rfl (Nat.le_of_ble_eq_true rfl) d_Mo_may_2 ?_
  obtain ⟨V1, hM1, hK1, hF1, hT1⟩ := hM.putT 0
  refine z_aload_n 0 d_Mo_may_5 rfl rfl ?_
  refine z_iload_n 1 d_Mo_may_6 rfl rfl ?_
  refine z_callV0 (m_Mo_isSecret hs0 hst hM1 x) ym_Mo_isSecret qM_Mo_147 qI_Mo_isSecret qV_Mo_Mo_isSecret zc_Mo hM1.mo d_Mo_may_7 rfl (Nat.le_of_ble_eq_true rfl) ⟨by decide, by decide⟩ ⟨Nat.le_of_ble_eq_true rfl, Nat.le_of_ble_eq_true rfl⟩ ?_
  refine z_if_ne 27 d_Mo_may_10 (by decide) (fun c_10 => ?_) (fun c_10 => ?_)
  · skip
    obtain ⟨si, hsi, rfl⟩ := zin_n ((zb_n0 _).mp c_10) (by omega)
    refine z_aload_n 0 d_Mo_may_27 rfl rfl ?_
    refine z_iload_n 2 d_Mo_may_28 rfl rfl ?_
    refine z_callV0 (m_Mo_isSet hs0 hst hM1 set) ym_Mo_isSet qM_Mo_129 qI_Mo_isSet qV_Mo_Mo_isSet zc_Mo hM1.mo d_Mo_may_29 rfl (Nat.le_of_ble_eq_true rfl) ⟨by decide, by decide⟩ ⟨Nat.le_of_ble_eq_true rfl, Nat.le_of_ble_eq_true rfl⟩ ?_
    refine z_if_eq 45 d_Mo_may_32 (by decide) (fun c_32 => ?_) (fun c_32 => ?_)
    · skip
      refine z_aload_n 0 d_Mo_may_45 rfl rfl ?_
      refine z_iconst (v := 2) d_Mo_may_46 (by decide) ?_
      refine z_callV0 (m_Mo_no hs0 hst hM1.mo 2) ym_Mo_no qM_Mo_119 qI_Mo_no qV_Mo_Mo_no zc_Mo hM1.mo d_Mo_may_47 rfl (Nat.le_of_ble_eq_true rfl) ⟨by decide, by decide⟩ ⟨Nat.le_of_ble_eq_true rfl, Nat.le_of_ble_eq_true rfl⟩ ?_
      obtain ⟨V9, hM9, hK9, hF9, hT9⟩ := hM1.putT 2
      refine z_if_le 57 d_Mo_may_50 (by decide) (fun c_50 => ?_) (fun c_50 => absurd (by decide) c_50)
      refine z_iconst (v := 0) d_Mo_may_57 (by decide) ?_
      exact z_zret rfl (by first | rfl | exact zb_nar _) (⟨⟨false, rfl⟩, V9, hM9, hK1.tr hK9, hF1.tr hF9⟩) (by first | decide | omega) (by first | decide | omega) d_Mo_may_58
    · skip
      obtain ⟨g, hg, rfl⟩ := zsetok_le hnk ((zb_n0 _).mp c_32)
      refine z_iload_n 3 d_Mo_may_35 rfl rfl ?_
      refine z_iconst (v := 0) d_Mo_may_36 (by decide) ?_
      refine z_bipush (v := 96) d_Mo_may_37 (by decide) ?_
      refine z_callS0 (m_Mo_in hs0 hst w 0 _) ym_Mo_in qM_Mo_115 qS_Mo_in d_Mo_may_39 rfl (Nat.le_of_ble_eq_true rfl) ⟨by decide, by decide⟩ ⟨Nat.le_of_ble_eq_true rfl, Nat.le_of_ble_eq_true rfl⟩ ?_
      refine z_if_ne 59 d_Mo_may_42 (by decide) (fun c_42 => ?_) (fun c_42 => ?_)
      · skip
        refine z_aload_n 0 d_Mo_may_59 rfl rfl ?_
        refine z_get zc_Mo 7 (by decide) qF_Mo_20 hM1.mo rfl d_Mo_may_60 ?_
        refine z_iload_n 1 d_Mo_may_63 rfl rfl ?_
        refine z_callF0 (m_AL_get hs0 hst (hM1.sA hsi) hsi (if_pos hsi)) ym_AL_get zF_AL_get qM_Mo_51 zc_AL (hM1.sA hsi).1 d_Mo_may_64 rfl (Nat.le_of_ble_eq_true rfl) ⟨by decide, by decide⟩ ⟨Nat.le_of_ble_eq_true rfl, Nat.le_of_ble_eq_true rfl⟩ ?_
        refine z_castS zc_MS qK_Mo_47 (hM1.se hsi).1 d_Mo_may_69 ?_
        refine z_astore (L' := [(4, _), (0, _), (1, _), (2, _), (3, _)]) d_Mo_may_72 (by decide) rfl ?_
        refine z_bipush (v := 9) d_Mo_may_74 (by decide) ?_
        refine z_newaI 9 qA_int (by decide) rfl (by decide) ⟨by decide, by decide⟩ d_Mo_may_76 (fun a ha hab => ?_)
        refine z_astore (L' := [(5, _), (4, _), (0, _), (1, _), (2, _), (3, _)]) d_Mo_may_78 (by decide) rfl ?_
        refine z_bipush (v := 9) d_Mo_may_80 (by decide) ?_
        refine z_newaI 9 qA_int (by decide) rfl (by decide) ⟨by decide, by decide⟩ d_Mo_may_82 (fun b hb hbb => ?_)
        have nab : a ≠ b := ne_of_none zu_s hb
        have hb0 : (zu G (B 0) (zmh B 0 (V 0 1) (V 0 2) (V 0 3) (V 0 4) (V 0 5))) b = none := by rw [zu_n nab.symm] at hb; exact hb
        have hMo : ∀ u w, zM d B V1 nk ns ne ec (zu (zu (zu G (B 0) (zmh B 0 (V 0 1) (V 0 2) (V 0 3) (V 0 4) (V 0 5))) a u) b w) := fun u w => (hM1.out (hM1.nn_ ha)).out (hM1.nn_ hb0)
        refine z_astore (L' := [(6, _), (5, _), (4, _), (0, _), (1, _), (2, _), (3, _)]) d_Mo_may_84 (by decide) rfl ?_
        refine z_aload 0 d_Mo_may_86 rfl ?_
        refine z_iconst (v := (nI 0)) d_Mo_may_88 (by decide) ?_
        refine z_iload_n 6 d_Mo_may_89 rfl rfl ?_
        refine z_iastN zu_s (show 0 < 9 by decide) (by decide) d_Mo_may_90 ?_
        refine z_one ?_
        refine z_iconst (v := (nI 1)) d_Mo_may_91 (by decide) ?_
        refine z_istore (L' := [(7, _), (6, _), (5, _), (4, _), (0, _), (1, _), (2, _), (3, _)]) d_Mo_may_92 (by decide) rfl ?_
        refine z_aload_n 4 d_Mo_may_94 rfl rfl ?_
        refine z_aload 3 d_Mo_may_95 rfl ?_
        refine z_iload_n 6 d_Mo_may_97 rfl rfl ?_
        refine z_callVp1 ((m_Mo_groupQ hs0 hst (hMo _ _) hsi hg)) ym_Mo_group qM_Mo_150 qI_Mo_group qV_Mo_Mo_group zc_Mo (hMo _ _).mo d_Mo_may_98 rfl (Nat.le_of_ble_eq_true rfl) ⟨by decide, by decide⟩ ⟨Nat.le_of_ble_eq_true rfl, Nat.le_of_ble_eq_true rfl⟩ (fun r_98 G_98 hp_98 => ?_)
        obtain ⟨⟨q9, hq9, rfl⟩, rfl⟩ := hp_98
        refine z_istore (L' := [(8, _), (7, _), (6, _), (5, _), (4, _), (0, _), (1, _), (2, _), (3, _)]) d_Mo_may_101 (by decide) rfl ?_
        refine z_iconst (v := (nI 0)) d_Mo_may_103 (by decide) ?_
        refine z_istore (L' := [(9, _), (8, _), (7, _), (6, _), (5, _), (4, _), (0, _), (1, _), (2, _), (3, _)]) d_Mo_may_104 (by decide) rfl ?_
        have key_106 : ∀ (n : Nat) (i : Nat) (ct : Nat) (P2 N2 : Nat → Int32), 8 - i < n → (i ≤ 8) → (ct ≤ i + 1) → Z g0 d y_Mo_may c_Mo_may 10 ((Option.some Jvm.ClassFile.FieldType.boolean)) [] p l e (zR 12 2 18) s m args below meth c (vx_MQ below (zQc g0 d (mTp d B nk ns ne ec V G zrB)) (zXc g0 d (zNo)) args s 2 18 (zA g0)) 2 18 (zu (zu (zu G (B 0) (zmh B 0 (V 0 1) (V 0 2) (V 0 3) (V 0 4) (V 0 5))) a (zI d 9 P2)) b (zI d 9 N2)) [(9, .int (nI i)), (8, .int (nI q9)), (7, .int (nI ct)), (6, .ref b), (5, .ref a), (4, .ref (B (200 + si))), (0, .ref (B 0)), (1, .int (nI si)), (2, .int (nI g)), (3, .int w)] [] 106 := by
          intro n
          induction n with
          | zero => intro i ct P2 N2 h0; exact absurd h0 (Nat.not_lt_zero _)
          | succ n ih_106 =>
            intro i ct P2 N2 hm_106 hi hct
            refine z_iload 0 d_Mo_may_106 rfl ?_
            refine z_bipush (v := 8) d_Mo_may_108 (by decide) ?_
            refine z_icmp_ge 207 d_Mo_may_110 (by decide) (fun c_110 => ?_) (fun c_110 => ?_)
            · skip
              refine z_iconst (v := 1) d_Mo_may_207 (by decide) ?_
              exact z_zret rfl (by first | rfl | exact zb_nar _) (⟨⟨true, rfl⟩, V1, hMo _ _, hK1, hF1.tr ((zFr.new ha).nw hb0)⟩) (by first | decide | omega) (by first | decide | omega) d_Mo_may_208
            · skip
              have hi6 : i < 8 := Nat.lt_of_not_le fun q => c_110 (nI_le (a := 8) (b := i) q (by omega))
              refine z_iload 1 d_Mo_may_113 rfl ?_
              refine z_iload 0 d_Mo_may_115 rfl ?_
              refine z_callS0 (m_Mo_has hs0 hst (nI q9) (nI i)) ym_Mo_has qM_Mo_76 qS_Mo_has d_Mo_may_117 rfl (Nat.le_of_ble_eq_true rfl) ⟨by decide, by decide⟩ ⟨Nat.le_of_ble_eq_true rfl, Nat.le_of_ble_eq_true rfl⟩ ?_
              refine z_if_ne 126 d_Mo_may_120 (by decide) (fun c_120 => ?_) (fun c_120 => ?_)
              · skip
                have hk6 : i < nk := zbt_lt hq9 (by omega) hi6 c_120
                refine z_iload 2 d_Mo_may_126 rfl ?_
                refine z_aload 5 d_Mo_may_128 rfl ?_
                refine z_get zc_MS 0 (by decide) qF_Mo_69 ((hMo _ _).se hsi).1 rfl d_Mo_may_130 ?_
                refine z_icmp_ne 163 d_Mo_may_133 (by decide) (fun c_133 => ?_) (fun c_133 => ?_)
                · skip
                  refine z_iload 2 d_Mo_may_163 rfl ?_
                  refine z_aload 5 d_Mo_may_165 rfl ?_
                  refine z_get zc_MS 0 (by decide) qF_Mo_69 ((hMo _ _).se hsi).1 rfl d_Mo_may_167 ?_
                  refine z_icmp_ne 176 d_Mo_may_170 (by decide) (fun c_170 => ?_) (fun c_170 => ?_)
                  · skip
                    refine z_aload 4 d_Mo_may_176 rfl ?_
                    refine z_iload 2 d_Mo_may_178 rfl ?_
                    refine z_iload 0 d_Mo_may_180 rfl ?_
                    refine z_iconst (v := 1) d_Mo_may_182 (by decide) ?_
                    refine z_iadd d_Mo_may_183 ?_
                    refine z_iastN ((zu_n nab).trans zu_s) (show ct < 9 by omega) (by decide) d_Mo_may_184 ?_
                    refine z_geq (G' := zu (zu (zu G (B 0) (zmh B 0 (V 0 1) (V 0 2) (V 0 3) (V 0 4) (V 0 5))) a (zI d 9 (upd P2 ct (nI i + 1)))) b (zI d 9 N2)) (by rw [zu_comm nab.symm, zu_zu] <;> rfl) ?_
                    refine z_aload 3 d_Mo_may_185 rfl ?_
                    refine z_iload 2 d_Mo_may_187 rfl ?_
                    refine z_aload_n 6 d_Mo_may_189 rfl rfl ?_
                    refine z_aload 5 d_Mo_may_190 rfl ?_
                    refine z_iload 0 d_Mo_may_192 rfl ?_
                    refine z_callV0 (m_Mo_gives hs0 hst (hMo _ _) hsi hk6) ym_Mo_gives qM_Mo_80 qI_Mo_gives qV_Mo_Mo_gives zc_Mo (hMo _ _).mo d_Mo_may_194 rfl (Nat.le_of_ble_eq_true rfl) ⟨by decide, by decide⟩ ⟨Nat.le_of_ble_eq_true rfl, Nat.le_of_ble_eq_true rfl⟩ ?_
                    refine z_iastN zu_s (show ct < 9 by omega) (by decide) d_Mo_may_197 ?_
                    refine z_one ?_
                    refine z_iinc (v := nI (ct + 1)) (L' := [(7, _), (9, _), (8, _), (6, _), (5, _), (4, _), (0, _), (1, _), (2, _), (3, _)]) 2 d_Mo_may_198 rfl (nI_1 ct) (by decide) rfl ?_
                    refine z_iinc (v := nI (i + 1)) (L' := [(9, _), (7, _), (8, _), (6, _), (5, _), (4, _), (0, _), (1, _), (2, _), (3, _)]) 1 d_Mo_may_201 rfl (nI_1 i) (by decide) rfl ?_
                    refine z_goto 106 d_Mo_may_204 (by decide) ?_
                    refine z_sub (L' := [(9, _), (8, _), (7, _), (6, _), (5, _), (4, _), (0, _), (1, _), (2, _), (3, _)]) [0, 2, 1, 3, 4, 5, 6, 7, 8, 9] rfl ?_
                    first
                      | exact ih_106 (i + 1) (ct + 1) _ _ (by omega) (by omega) (by omega)
                      | exact ih_106 (i + 1) ct _ _ (by omega) (by omega) (by omega)
                  · skip
                    refine z_goto 201 d_Mo_may_173 (by decide) ?_
                    refine z_iinc (v := nI (i + 1)) (L' := [(9, _), (8, _), (7, _), (6, _), (5, _), (4, _), (0, _), (1, _), (2, _), (3, _)]) 0 d_Mo_may_201 rfl (nI_1 i) (by decide) rfl ?_
                    refine z_goto 106 d_Mo_may_204 (by decide) ?_
                    first
                      | exact ih_106 (i + 1) (ct + 1) _ _ (by omega) (by omega) (by omega)
                      | exact ih_106 (i + 1) ct _ _ (by omega) (by omega) (by omega)
                · skip
                  refine z_aload_n 6 d_Mo_may_136 rfl rfl ?_
                  refine z_aload 4 d_Mo_may_137 rfl ?_
                  refine z_aload 3 d_Mo_may_139 rfl ?_
                  refine z_iload 2 d_Mo_may_141 rfl ?_
                  refine z_iload 0 d_Mo_may_143 rfl ?_
                  refine z_iconst (v := 1) d_Mo_may_145 (by decide) ?_
                  refine z_iadd d_Mo_may_146 ?_
                  refine z_callV0 (m_Mo_through hs0 hst (hMo _ _) ((zu_n nab).trans zu_s) zu_s (show ct ≤ 9 by omega) (by decide) (nI i + 1)) ym_Mo_through qM_Mo_84 qI_Mo_through qV_Mo_Mo_through zc_Mo (hMo _ _).mo d_Mo_may_147 rfl (Nat.le_of_ble_eq_true rfl) ⟨by decide, by decide⟩ ⟨Nat.le_of_ble_eq_true rfl, Nat.le_of_ble_eq_true rfl⟩ ?_
                  refine z_aload_n 6 d_Mo_may_150 rfl rfl ?_
                  refine z_aload 5 d_Mo_may_151 rfl ?_
                  refine z_iload 0 d_Mo_may_153 rfl ?_
                  refine z_callV0 (m_Mo_gives hs0 hst (hMo _ _) hsi hk6) ym_Mo_gives qM_Mo_80 qI_Mo_gives qV_Mo_Mo_gives zc_Mo (hMo _ _).mo d_Mo_may_155 rfl (Nat.le_of_ble_eq_true rfl) ⟨by decide, by decide⟩ ⟨Nat.le_of_ble_eq_true rfl, Nat.le_of_ble_eq_true rfl⟩ ?_
                  refine z_icmp_eq 163 d_Mo_may_158 (by decide) (fun c_158 => ?_) (fun c_158 => ?_)
                  · skip
                    refine z_iload 2 d_Mo_may_163 rfl ?_
                    refine z_aload 5 d_Mo_may_165 rfl ?_
                    refine z_get zc_MS 0 (by decide) qF_Mo_69 ((hMo _ _).se hsi).1 rfl d_Mo_may_167 ?_
                    refine z_icmp_ne 176 d_Mo_may_170 (by decide) (fun c_170 => ?_) (fun c_170 => ?_)
                    · skip
                      refine z_aload 4 d_Mo_may_176 rfl ?_
                      refine z_iload 2 d_Mo_may_178 rfl ?_
                      refine z_iload 0 d_Mo_may_180 rfl ?_
                      refine z_iconst (v := 1) d_Mo_may_182 (by decide) ?_
                      refine z_iadd d_Mo_may_183 ?_
                      refine z_iastN ((zu_n nab).trans zu_s) (show ct < 9 by omega) (by decide) d_Mo_may_184 ?_
                      refine z_geq (G' := zu (zu (zu G (B 0) (zmh B 0 (V 0 1) (V 0 2) (V 0 3) (V 0 4) (V 0 5))) a (zI d 9 (upd P2 ct (nI i + 1)))) b (zI d 9 N2)) (by rw [zu_comm nab.symm, zu_zu] <;> rfl) ?_
                      refine z_aload 3 d_Mo_may_185 rfl ?_
                      refine z_iload 2 d_Mo_may_187 rfl ?_
                      refine z_aload_n 6 d_Mo_may_189 rfl rfl ?_
                      refine z_aload 5 d_Mo_may_190 rfl ?_
                      refine z_iload 0 d_Mo_may_192 rfl ?_
                      refine z_callV0 (m_Mo_gives hs0 hst (hMo _ _) hsi hk6) ym_Mo_gives qM_Mo_80 qI_Mo_gives qV_Mo_Mo_gives zc_Mo (hMo _ _).mo d_Mo_may_194 rfl (Nat.le_of_ble_eq_true rfl) ⟨by decide, by decide⟩ ⟨Nat.le_of_ble_eq_true rfl, Nat.le_of_ble_eq_true rfl⟩ ?_
                      refine z_iastN zu_s (show ct < 9 by omega) (by decide) d_Mo_may_197 ?_
                      refine z_one ?_
                      refine z_iinc (v := nI (ct + 1)) (L' := [(7, _), (9, _), (8, _), (6, _), (5, _), (4, _), (0, _), (1, _), (2, _), (3, _)]) 2 d_Mo_may_198 rfl (nI_1 ct) (by decide) rfl ?_
                      refine z_iinc (v := nI (i + 1)) (L' := [(9, _), (7, _), (8, _), (6, _), (5, _), (4, _), (0, _), (1, _), (2, _), (3, _)]) 1 d_Mo_may_201 rfl (nI_1 i) (by decide) rfl ?_
                      refine z_goto 106 d_Mo_may_204 (by decide) ?_
                      refine z_sub (L' := [(9, _), (8, _), (7, _), (6, _), (5, _), (4, _), (0, _), (1, _), (2, _), (3, _)]) [0, 2, 1, 3, 4, 5, 6, 7, 8, 9] rfl ?_
                      first
                        | exact ih_106 (i + 1) (ct + 1) _ _ (by omega) (by omega) (by omega)
                        | exact ih_106 (i + 1) ct _ _ (by omega) (by omega) (by omega)
                    · skip
                      refine z_goto 201 d_Mo_may_173 (by decide) ?_
                      refine z_iinc (v := nI (i + 1)) (L' := [(9, _), (8, _), (7, _), (6, _), (5, _), (4, _), (0, _), (1, _), (2, _), (3, _)]) 0 d_Mo_may_201 rfl (nI_1 i) (by decide) rfl ?_
                      refine z_goto 106 d_Mo_may_204 (by decide) ?_
                      first
                        | exact ih_106 (i + 1) (ct + 1) _ _ (by omega) (by omega) (by omega)
                        | exact ih_106 (i + 1) ct _ _ (by omega) (by omega) (by omega)
                  · skip
                    refine z_iconst (v := 0) d_Mo_may_161 (by decide) ?_
                    exact z_zret rfl (by first | rfl | exact zb_nar _) (⟨⟨false, rfl⟩, V1, hMo _ _, hK1, hF1.tr ((zFr.new ha).nw hb0)⟩) (by first | decide | omega) (by first | decide | omega) d_Mo_may_162
              · skip
                refine z_goto 201 d_Mo_may_123 (by decide) ?_
                refine z_iinc (v := nI (i + 1)) (L' := [(9, _), (8, _), (7, _), (6, _), (5, _), (4, _), (0, _), (1, _), (2, _), (3, _)]) 0 d_Mo_may_201 rfl (nI_1 i) (by decide) rfl ?_
                refine z_goto 106 d_Mo_may_204 (by decide) ?_
                first
                  | exact ih_106 (i + 1) (ct + 1) _ _ (by omega) (by omega) (by omega)
                  | exact ih_106 (i + 1) ct _ _ (by omega) (by omega) (by omega)
        exact key_106 9 0 1 _ _ (by omega) (by omega) (by omega)
      · skip
        refine z_aload_n 0 d_Mo_may_45 rfl rfl ?_
        refine z_iconst (v := 2) d_Mo_may_46 (by decide) ?_
        refine z_callV0 (m_Mo_no hs0 hst hM1.mo 2) ym_Mo_no qM_Mo_119 qI_Mo_no qV_Mo_Mo_no zc_Mo hM1.mo d_Mo_may_47 rfl (Nat.le_of_ble_eq_true rfl) ⟨by decide, by decide⟩ ⟨Nat.le_of_ble_eq_true rfl, Nat.le_of_ble_eq_true rfl⟩ ?_
        obtain ⟨V9, hM9, hK9, hF9, hT9⟩ := hM1.putT 2
        refine z_if_le 57 d_Mo_may_50 (by decide) (fun c_50 => ?_) (fun c_50 => absurd (by decide) c_50)
        refine z_iconst (v := 0) d_Mo_may_57 (by decide) ?_
        exact z_zret rfl (by first | rfl | exact zb_nar _) (⟨⟨false, rfl⟩, V9, hM9, hK1.tr hK9, hF1.tr hF9⟩) (by first | decide | omega) (by first | decide | omega) d_Mo_may_58
  · skip
    refine z_aload_n 0 d_Mo_may_13 rfl rfl ?_
    refine z_iconst (v := 1) d_Mo_may_14 (by decide) ?_
    refine z_callV0 (m_Mo_no hs0 hst hM1.mo 1) ym_Mo_no qM_Mo_119 qI_Mo_no qV_Mo_Mo_no zc_Mo hM1.mo d_Mo_may_15 rfl (Nat.le_of_ble_eq_true rfl) ⟨by decide, by decide⟩ ⟨Nat.le_of_ble_eq_true rfl, Nat.le_of_ble_eq_true rfl⟩ ?_
    obtain ⟨V9, hM9, hK9, hF9, hT9⟩ := hM1.putT 1
    refine z_if_le 25 d_Mo_may_18 (by decide) (fun c_18 => ?_) (fun c_18 => absurd (by decide) c_18)
    refine z_iconst (v := 0) d_Mo_may_25 (by decide) ?_
    exact z_zret rfl (by first | rfl | exact zb_nar _) (⟨⟨false, rfl⟩, V9, hM9, hK1.tr hK9, hF1.tr hF9⟩) (by first | decide | omega) (by first | decide | omega) d_Mo_may_26
theorem d_Mo_row_0 : decode c_Mo_row 0 = .ok (.aload_n 0, 1) := by decide +kernel
theorem d_Mo_row_1 : decode c_Mo_row 1 = .ok (.iconst 0, 1) := by decide +kernel
theorem d_Mo_row_2 : decode c_Mo_row 2 = .ok (.putfield 36, 3) := by decide +kernel
theorem d_Mo_row_5 : decode c_Mo_row 5 = .ok (.aload_n 0, 1) := by decide +kernel
theorem d_Mo_row_6 : decode c_Mo_row 6 = .ok (.iload_n 1, 1) := by decide +kernel
theorem d_Mo_row_7 : decode c_Mo_row 7 = .ok (.invokevirtual 147, 3) := by decide +kernel
theorem d_Mo_row_10 : decode c_Mo_row 10 = .ok (.ifCond .ne 11, 3) := by decide +kernel
theorem d_Mo_row_13 : decode c_Mo_row 13 = .ok (.aload_n 0, 1) := by decide +kernel
theorem d_Mo_row_14 : decode c_Mo_row 14 = .ok (.iconst 1, 1) := by decide +kernel
theorem d_Mo_row_15 : decode c_Mo_row 15 = .ok (.putfield 36, 3) := by decide +kernel
theorem d_Mo_row_18 : decode c_Mo_row 18 = .ok (.ldc 234, 2) := by decide +kernel
theorem d_Mo_row_20 : decode c_Mo_row 20 = .ok (.areturn, 1) := by decide +kernel
theorem d_Mo_row_21 : decode c_Mo_row 21 = .ok (.aload_n 0, 1) := by decide +kernel
theorem d_Mo_row_22 : decode c_Mo_row 22 = .ok (.getfield 20, 3) := by decide +kernel
theorem d_Mo_row_25 : decode c_Mo_row 25 = .ok (.iload_n 1, 1) := by decide +kernel
theorem d_Mo_row_26 : decode c_Mo_row 26 = .ok (.invokeinterface 51 2, 5) := by decide +kernel
theorem d_Mo_row_31 : decode c_Mo_row 31 = .ok (.checkcast 47, 3) := by decide +kernel
theorem d_Mo_row_34 : decode c_Mo_row 34 = .ok (.astore_n 2, 1) := by decide +kernel
theorem d_Mo_row_35 : decode c_Mo_row 35 = .ok (.new 236, 3) := by decide +kernel
theorem d_Mo_row_38 : decode c_Mo_row 38 = .ok (.dup, 1) := by decide +kernel
theorem d_Mo_row_39 : decode c_Mo_row 39 = .ok (.invokespecial 238, 3) := by decide +kernel
theorem d_Mo_row_42 : decode c_Mo_row 42 = .ok (.astore_n 3, 1) := by decide +kernel
theorem d_Mo_row_43 : decode c_Mo_row 43 = .ok (.iconst 0, 1) := by decide +kernel
theorem d_Mo_row_44 : decode c_Mo_row 44 = .ok (.istore 4, 2) := by decide +kernel
theorem d_Mo_row_46 : decode c_Mo_row 46 = .ok (.iload 4, 2) := by decide +kernel
theorem d_Mo_row_48 : decode c_Mo_row 48 = .ok (.aload_n 0, 1) := by decide +kernel
theorem d_Mo_row_49 : decode c_Mo_row 49 = .ok (.getfield 16, 3) := by decide +kernel
theorem d_Mo_row_52 : decode c_Mo_row 52 = .ok (.invokeinterface 94 1, 5) := by decide +kernel
theorem d_Mo_row_57 : decode c_Mo_row 57 = .ok (.if_icmp .ge 44, 3) := by decide +kernel
theorem d_Mo_row_60 : decode c_Mo_row 60 = .ok (.aload_n 3, 1) := by decide +kernel
theorem d_Mo_row_61 : decode c_Mo_row 61 = .ok (.aload_n 2, 1) := by decide +kernel
theorem d_Mo_row_62 : decode c_Mo_row 62 = .ok (.iload 4, 2) := by decide +kernel
theorem d_Mo_row_64 : decode c_Mo_row 64 = .ok (.invokevirtual 159, 3) := by decide +kernel
theorem d_Mo_row_67 : decode c_Mo_row 67 = .ok (.ifCond .eq 8, 3) := by decide +kernel
theorem d_Mo_row_70 : decode c_Mo_row 70 = .ok (.bipush 111, 2) := by decide +kernel
theorem d_Mo_row_72 : decode c_Mo_row 72 = .ok (.goto 19, 3) := by decide +kernel
theorem d_Mo_row_75 : decode c_Mo_row 75 = .ok (.aload_n 2, 1) := by decide +kernel
theorem d_Mo_row_76 : decode c_Mo_row 76 = .ok (.iload 4, 2) := by decide +kernel
theorem d_Mo_row_78 : decode c_Mo_row 78 = .ok (.invokevirtual 190, 3) := by decide +kernel
theorem d_Mo_row_81 : decode c_Mo_row 81 = .ok (.ifCond .eq 8, 3) := by decide +kernel
theorem d_Mo_row_84 : decode c_Mo_row 84 = .ok (.bipush 115, 2) := by decide +kernel
theorem d_Mo_row_86 : decode c_Mo_row 86 = .ok (.goto 5, 3) := by decide +kernel
theorem d_Mo_row_89 : decode c_Mo_row 89 = .ok (.bipush 46, 2) := by decide +kernel
theorem d_Mo_row_91 : decode c_Mo_row 91 = .ok (.invokevirtual 239, 3) := by decide +kernel
theorem d_Mo_row_94 : decode c_Mo_row 94 = .ok (.pop, 1) := by decide +kernel
theorem d_Mo_row_95 : decode c_Mo_row 95 = .ok (.iinc 4 1, 3) := by decide +kernel
theorem d_Mo_row_98 : decode c_Mo_row 98 = .ok (.goto (-52), 3) := by decide +kernel
theorem d_Mo_row_101 : decode c_Mo_row 101 = .ok (.aload_n 2, 1) := by decide +kernel
theorem d_Mo_row_102 : decode c_Mo_row 102 = .ok (.getfield 108, 3) := by decide +kernel
theorem d_Mo_row_105 : decode c_Mo_row 105 = .ok (.ifCond .ne 10, 3) := by decide +kernel
theorem d_Mo_row_108 : decode c_Mo_row 108 = .ok (.aload_n 3, 1) := by decide +kernel
theorem d_Mo_row_109 : decode c_Mo_row 109 = .ok (.invokevirtual 243, 3) := by decide +kernel
theorem d_Mo_row_112 : decode c_Mo_row 112 = .ok (.goto 12, 3) := by decide +kernel
theorem d_Mo_row_115 : decode c_Mo_row 115 = .ok (.aload_n 3, 1) := by decide +kernel
theorem d_Mo_row_116 : decode c_Mo_row 116 = .ok (.bipush 33, 2) := by decide +kernel
theorem d_Mo_row_118 : decode c_Mo_row 118 = .ok (.invokevirtual 239, 3) := by decide +kernel
theorem d_Mo_row_121 : decode c_Mo_row 121 = .ok (.invokevirtual 243, 3) := by decide +kernel
theorem d_Mo_row_124 : decode c_Mo_row 124 = .ok (.areturn, 1) := by decide +kernel
set_option maxHeartbeats 4000000 in
set_option maxRecDepth 100000 in
theorem m_Mo_row {g0 : State} {d : zD} {l : Launch} {a0 : Array Value} (hs0 : zS0 d a0 g0) (hst : l.stackTraces = false) {G : zG} {B : Nat → Nat} {V : Nat → Nat → Int32} {nk ns ne ec : Nat} (hM : zM d B V nk ns ne ec G) (x : Int32) : zMet g0 d l y_Mo_row c_Mo_row 5 ((Option.some (Jvm.ClassFile.FieldType.object "java/lang/String"))) 11 4 40 [.ref (B 0), .int x] (G) (mTp d B nk ns ne ec V G zrS) (zNo) := by
  have hnk : nk ≤ 8 := hM.2.1
  have hns : ns ≤ 6 := hM.2.2.1
  have hne : ne ≤ 64 := hM.2.2.2.1
  have hp2 : 2 ^ nk ≤ 256 := Nat.pow_le_pow_right (n := 2) (by decide) hnk
  refine z_entry hs0 hst (by decide) (Nat.le_of_ble_eq_true rfl) (fun p e s m args below meth c => ?_)
  refine z_aload_n 0 d_Mo_row_0 rfl rfl ?_
  refine z_iconst (v := 0) d_Mo_row_1 (by decide) ?_
  refine z_put zc_Mo 0 (by decide) qF_Mo_36 hM.mo rfl rfl rfl (Nat.le_of_ble_eq_true rfl) d_Mo_row_2 ?_
  obtain ⟨V1, hM1, hK1, hF1, hT1⟩ := hM.putT 0
  refine z_aload_n 0 d_Mo_row_5 rfl rfl ?_
  refine z_iload_n 1 d_Mo_row_6 rfl rfl ?_
  refine z_callV0 (m_Mo_isSecret hs0 hst hM1 x) ym_Mo_isSecret qM_Mo_147 qI_Mo_isSecret qV_Mo_Mo_isSecret zc_Mo hM1.mo d_Mo_row_7 rfl (Nat.le_of_ble_eq_true rfl) ⟨by decide, by decide⟩ ⟨Nat.le_of_ble_eq_true rfl, Nat.le_of_ble_eq_true rfl⟩ ?_
  refine z_if_ne 21 d_Mo_row_10 (by decide) (fun c_10 => ?_) (fun c_10 => ?_)
  · skip
    obtain ⟨si, hsi, rfl⟩ := zin_n ((zb_n0 _).mp c_10) (by omega)
    refine z_aload_n 0 d_Mo_row_21 rfl rfl ?_
    refine z_get zc_Mo 7 (by decide) qF_Mo_20 hM1.mo rfl d_Mo_row_22 ?_
    refine z_iload_n 1 d_Mo_row_25 rfl rfl ?_
    refine z_callF0 (m_AL_get hs0 hst (hM1.sA hsi) hsi (if_pos hsi)) ym_AL_get zF_AL_get qM_Mo_51 zc_AL (hM1.sA hsi).1 d_Mo_row_26 rfl (Nat.le_of_ble_eq_true rfl) ⟨by decide, by decide⟩ ⟨Nat.le_of_ble_eq_true rfl, Nat.le_of_ble_eq_true rfl⟩ ?_
    refine z_castS zc_MS qK_Mo_47 (hM1.se hsi).1 d_Mo_row_31 ?_
    refine z_astore_n (L' := [(2, _), (0, _), (1, _)]) d_Mo_row_34 rfl (by decide) rfl ?_
    refine z_new (fs := [.null, .int 0, .int 0, .int 0]) zc_SB qK_Mo_236 qO_SB qN_SB (by decide) ⟨by decide, by decide⟩ d_Mo_row_35 (fun h hh hhb => ?_)
    refine z_dup d_Mo_row_38 rfl ?_
    refine z_callIp1 (m_SB_init hs0 hst zu_s) ym_SB_init rfl qM_Mo_238 qI_SB_init d_Mo_row_39 rfl (Nat.le_of_ble_eq_true rfl) ⟨by decide, by decide⟩ ⟨Nat.le_of_ble_eq_true rfl, Nat.le_of_ble_eq_true rfl⟩ (fun r_39 G_39 hp_39 => ?_)
    obtain ⟨hr_39, a, ha, hB, hk2⟩ := hp_39
    obtain rfl : r_39 = none := hr_39
    have ha0 : (zu G (B 0) (zmh B 0 (V 0 1) (V 0 2) (V 0 3) (V 0 4) (V 0 5))) a = none := by
      by_cases e : a = h
      · subst e; rw [zu_s] at ha; cases ha
      · rw [zu_n e] at ha; exact ha
    have ho1 := hM1.nn_ hh
    have ho2 := hM1.nn_ ha0
    have hM3 : zM d B V1 nk ns ne ec G_39 := (hM1.out (w := zob 1 [.null, .int 0, .int 0, .int 0]) ho1).k2 hk2 ho1 ho2
    have hF3 : mFr B nk ns ne (zu G (B 0) (zmh B 0 (V 0 1) (V 0 2) (V 0 3) (V 0 4) (V 0 5))) G_39 := fun q v hq hn => hk2 q v ((zu_n (ne_of_none hq hh)).trans hq) (ne_of_none hq hh) (ne_of_none hq ha0)
    refine z_astore_n (L' := [(3, _), (2, _), (0, _), (1, _)]) d_Mo_row_42 rfl (by decide) rfl ?_
    refine z_iconst (v := (nI 0)) d_Mo_row_43 (by decide) ?_
    refine z_istore (L' := [(4, _), (3, _), (2, _), (0, _), (1, _)]) d_Mo_row_44 (by decide) rfl ?_
    have key_46 : ∀ (n : Nat) (i : Nat) (G2 : zG) (f : Nat → Int32), nk - i < n → (i ≤ nk) → (zM d B V1 nk ns ne ec G2) → (zSB d h a f i G2) → (mFr B nk ns ne (zu G (B 0) (zmh B 0 (V 0 1) (V 0 2) (V 0 3) (V 0 4) (V 0 5))) G2) → Z g0 d y_Mo_row c_Mo_row 5 ((Option.some (Jvm.ClassFile.FieldType.object "java/lang/String"))) [] p l e (zR 11 4 40) s m args below meth c (vx_MQ below (zQc g0 d (mTp d B nk ns ne ec V G zrS)) (zXc g0 d (zNo)) args s 4 40 (zA g0)) 2 20 (G2) [(4, .int (nI i)), (3, .ref h), (2, .ref (B (200 + si))), (0, .ref (B 0)), (1, .int (nI si))] [] 46 := by
      intro n
      induction n with
      | zero => intro i G2 f h0; exact absurd h0 (Nat.not_lt_zero _)
      | succ n ih_46 =>
        intro i G2 f hm_46 hi hM2 hB2 hF2
        obtain ⟨⟨ml, hG_SB⟩, -, -⟩ := id hB2
        refine z_iload 0 d_Mo_row_46 rfl ?_
        refine z_aload_n 3 d_Mo_row_48 rfl rfl ?_
        refine z_get zc_Mo 6 (by decide) qF_Mo_16 hM2.mo rfl d_Mo_row_49 ?_
        refine z_callF0 (m_AL_size hs0 hst hM2.kl) ym_AL_size zF_AL_size qM_Mo_94 zc_AL hM2.kl d_Mo_row_52 rfl (Nat.le_of_ble_eq_true rfl) ⟨by decide, by decide⟩ ⟨Nat.le_of_ble_eq_true rfl, Nat.le_of_ble_eq_true rfl⟩ ?_
        refine z_icmp_ge 101 d_Mo_row_57 (by decide) (fun c_57 => ?_) (fun c_57 => ?_)
        · skip
          refine z_aload_n 2 d_Mo_row_101 rfl rfl ?_
          refine z_get zc_MS 4 (by decide) qF_Mo_108 (hM2.se hsi).1 rfl d_Mo_row_102 ?_
          refine z_if_ne 115 d_Mo_row_105 (by decide) (fun c_105 => ?_) (fun c_105 => ?_)
          · skip
            refine z_aload_n 1 d_Mo_row_115 rfl rfl ?_
            refine z_bipush (v := 33) d_Mo_row_116 (by decide) ?_
            refine z_callVp0 (m_SB_append_1 hs0 hst hB2 (show i < 16 by omega) (by decide)) ym_SB_append_1 qM_Mo_239 qI_SB_append_1 qV_SB_SB_append_1 zc_SB hG_SB d_Mo_row_118 rfl (Nat.le_of_ble_eq_true rfl) ⟨by decide, by decide⟩ ⟨Nat.le_of_ble_eq_true rfl, Nat.le_of_ble_eq_true rfl⟩ (fun r_118 G_118 hp_118 => ?_)
            obtain ⟨rfl, ⟨f3, hB3⟩, hk3⟩ := hp_118
            have hM3 := hM2.k2 hk3 ho1 ho2
            have hF3 : mFr B nk ns ne (zu G (B 0) (zmh B 0 (V 0 1) (V 0 2) (V 0 3) (V 0 4) (V 0 5))) G_118 := fun q v hq hn => hk3 q v (hF2 q v hq hn) (ne_of_none hq hh) (ne_of_none hq ha0)
            obtain ⟨⟨ml3, hG_SB3⟩, -, -⟩ := id hB3
            refine z_callVp1 (m_SB_toString hs0 hst hB3 (by omega)) ym_SB_toString qM_Mo_243 qI_SB_toString qV_SB_SB_toString zc_SB hG_SB3 d_Mo_row_121 rfl (Nat.le_of_ble_eq_true rfl) ⟨by decide, by decide⟩ ⟨Nat.le_of_ble_eq_true rfl, Nat.le_of_ble_eq_true rfl⟩ (fun r_121 G_121 hp_121 => ?_)
            obtain ⟨⟨q9, rfl⟩, hk9⟩ := hp_121
            exact z_aret rfl (Or.inl ⟨_, rfl⟩) (Or.inr ⟨_, rfl⟩) (⟨⟨_, rfl⟩, V1, ⟨⟨hM3.1.1, fun r hr => hk9 _ _ (hM3.1.2 r hr)⟩, hM3.2⟩, hK1, hF1.tr fun q v hq hn => hk9 q v (hF3 q v hq hn)⟩) (by first | decide | omega) (by first | decide | omega) d_Mo_row_124
          · skip
            refine z_aload_n 1 d_Mo_row_108 rfl rfl ?_
            refine z_callVp1 (m_SB_toString hs0 hst hB2 (by omega)) ym_SB_toString qM_Mo_243 qI_SB_toString qV_SB_SB_toString zc_SB hG_SB d_Mo_row_109 rfl (Nat.le_of_ble_eq_true rfl) ⟨by decide, by decide⟩ ⟨Nat.le_of_ble_eq_true rfl, Nat.le_of_ble_eq_true rfl⟩ (fun r_109 G_109 hp_109 => ?_)
            obtain ⟨⟨q9, rfl⟩, hk9⟩ := hp_109
            have hM3 := hM2
            have hF3 := hF2
            refine z_goto 124 d_Mo_row_112 (by decide) ?_
            exact z_aret rfl (Or.inl ⟨_, rfl⟩) (Or.inr ⟨_, rfl⟩) (⟨⟨_, rfl⟩, V1, ⟨⟨hM3.1.1, fun r hr => hk9 _ _ (hM3.1.2 r hr)⟩, hM3.2⟩, hK1, hF1.tr fun q v hq hn => hk9 q v (hF3 q v hq hn)⟩) (by first | decide | omega) (by first | decide | omega) d_Mo_row_124
        · skip
          have hi6 : i < nk := Nat.lt_of_not_le fun q => c_57 (nI_le q (by omega))
          refine z_aload_n 1 d_Mo_row_60 rfl rfl ?_
          refine z_aload_n 2 d_Mo_row_61 rfl rfl ?_
          refine z_iload 0 d_Mo_row_62 rfl ?_
          refine z_callV0 (m_MS_isGood hs0 hst (hM2.se hsi) (show i < 8 by omega)) ym_MS_isGood qM_Mo_159 qI_MS_isGood qV_MS_MS_isGood zc_MS (hM2.se hsi).1 d_Mo_row_64 rfl (Nat.le_of_ble_eq_true rfl) ⟨by decide, by decide⟩ ⟨Nat.le_of_ble_eq_true rfl, Nat.le_of_ble_eq_true rfl⟩ ?_
          refine z_if_eq 75 d_Mo_row_67 (by decide) (fun c_67 => ?_) (fun c_67 => ?_)
          · skip
            refine z_aload_n 2 d_Mo_row_75 rfl rfl ?_
            refine z_iload 0 d_Mo_row_76 rfl ?_
            refine z_callV0 (m_MS_isStale hs0 hst (hM2.se hsi) (show i < 8 by omega)) ym_MS_isStale qM_Mo_190 qI_MS_isStale qV_MS_MS_isStale zc_MS (hM2.se hsi).1 d_Mo_row_78 rfl (Nat.le_of_ble_eq_true rfl) ⟨by decide, by decide⟩ ⟨Nat.le_of_ble_eq_true rfl, Nat.le_of_ble_eq_true rfl⟩ ?_
            refine z_if_eq 89 d_Mo_row_81 (by decide) (fun c_81 => ?_) (fun c_81 => ?_)
            · skip
              refine z_bipush (v := 46) d_Mo_row_89 (by decide) ?_
              refine z_callVp0 (m_SB_append_1 hs0 hst hB2 (show i < 16 by omega) (by decide)) ym_SB_append_1 qM_Mo_239 qI_SB_append_1 qV_SB_SB_append_1 zc_SB hG_SB d_Mo_row_91 rfl (Nat.le_of_ble_eq_true rfl) ⟨by decide, by decide⟩ ⟨Nat.le_of_ble_eq_true rfl, Nat.le_of_ble_eq_true rfl⟩ (fun r_91 G_91 hp_91 => ?_)
              obtain ⟨rfl, ⟨f3, hB3⟩, hk3⟩ := hp_91
              have hM3 := hM2.k2 hk3 ho1 ho2
              have hF3 : mFr B nk ns ne (zu G (B 0) (zmh B 0 (V 0 1) (V 0 2) (V 0 3) (V 0 4) (V 0 5))) G_91 := fun q v hq hn => hk3 q v (hF2 q v hq hn) (ne_of_none hq hh) (ne_of_none hq ha0)
              refine z_pop d_Mo_row_94 rfl ?_
              refine z_iinc (v := nI (i + 1)) (L' := [(4, _), (3, _), (2, _), (0, _), (1, _)]) 0 d_Mo_row_95 rfl (nI_1 i) (by decide) rfl ?_
              refine z_goto 46 d_Mo_row_98 (by decide) ?_
              exact ih_46 (i + 1) _ _ (by omega) (by omega) hM3 hB3 hF3
            · skip
              refine z_bipush (v := 115) d_Mo_row_84 (by decide) ?_
              refine z_goto 91 d_Mo_row_86 (by decide) ?_
              refine z_callVp0 (m_SB_append_1 hs0 hst hB2 (show i < 16 by omega) (by decide)) ym_SB_append_1 qM_Mo_239 qI_SB_append_1 qV_SB_SB_append_1 zc_SB hG_SB d_Mo_row_91 rfl (Nat.le_of_ble_eq_true rfl) ⟨by decide, by decide⟩ ⟨Nat.le_of_ble_eq_true rfl, Nat.le_of_ble_eq_true rfl⟩ (fun r_91 G_91 hp_91 => ?_)
              obtain ⟨rfl, ⟨f3, hB3⟩, hk3⟩ := hp_91
              have hM3 := hM2.k2 hk3 ho1 ho2
              have hF3 : mFr B nk ns ne (zu G (B 0) (zmh B 0 (V 0 1) (V 0 2) (V 0 3) (V 0 4) (V 0 5))) G_91 := fun q v hq hn => hk3 q v (hF2 q v hq hn) (ne_of_none hq hh) (ne_of_none hq ha0)
              refine z_pop d_Mo_row_94 rfl ?_
              refine z_iinc (v := nI (i + 1)) (L' := [(4, _), (3, _), (2, _), (0, _), (1, _)]) 0 d_Mo_row_95 rfl (nI_1 i) (by decide) rfl ?_
              refine z_goto 46 d_Mo_row_98 (by decide) ?_
              exact ih_46 (i + 1) _ _ (by omega) (by omega) hM3 hB3 hF3
          · skip
            refine z_bipush (v := 111) d_Mo_row_70 (by decide) ?_
            refine z_goto 91 d_Mo_row_72 (by decide) ?_
            refine z_callVp0 (m_SB_append_1 hs0 hst hB2 (show i < 16 by omega) (by decide)) ym_SB_append_1 qM_Mo_239 qI_SB_append_1 qV_SB_SB_append_1 zc_SB hG_SB d_Mo_row_91 rfl (Nat.le_of_ble_eq_true rfl) ⟨by decide, by decide⟩ ⟨Nat.le_of_ble_eq_true rfl, Nat.le_of_ble_eq_true rfl⟩ (fun r_91 G_91 hp_91 => ?_)
            obtain ⟨rfl, ⟨f3, hB3⟩, hk3⟩ := hp_91
            have hM3 := hM2.k2 hk3 ho1 ho2
            have hF3 : mFr B nk ns ne (zu G (B 0) (zmh B 0 (V 0 1) (V 0 2) (V 0 3) (V 0 4) (V 0 5))) G_91 := fun q v hq hn => hk3 q v (hF2 q v hq hn) (ne_of_none hq hh) (ne_of_none hq ha0)
            refine z_pop d_Mo_row_94 rfl ?_
            refine z_iinc (v := nI (i + 1)) (L' := [(4, _), (3, _), (2, _), (0, _), (1, _)]) 0 d_Mo_row_95 rfl (nI_1 i) (by decide) rfl ?_
            refine z_goto 46 d_Mo_row_98 (by decide) ?_
            exact ih_46 (i + 1) _ _ (by omega) (by omega) hM3 hB3 hF3
    exact key_46 (nk + 1) 0 _ _ (by omega) (by omega) hM3 hB hF3
  · skip
    refine z_aload_n 0 d_Mo_row_13 rfl rfl ?_
    refine z_iconst (v := 1) d_Mo_row_14 (by decide) ?_
    refine z_put zc_Mo 0 (by decide) qF_Mo_36 hM1.mo rfl rfl rfl (Nat.le_of_ble_eq_true rfl) d_Mo_row_15 ?_
    obtain ⟨V9, hM9, hK9, hF9, hT9⟩ := hM1.putT 1
    refine z_ldcS qR_Mo_234 d_Mo_row_18 (fun q9 => ?_)
    exact z_aret rfl (Or.inl ⟨_, rfl⟩) (Or.inr ⟨_, rfl⟩) (⟨⟨_, rfl⟩, V9, hM9, hK1.tr hK9, hF1.tr hF9⟩) (by first | decide | omega) (by first | decide | omega) d_Mo_row_20
