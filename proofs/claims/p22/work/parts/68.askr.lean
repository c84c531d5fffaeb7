
def fml (V : Nat → Nat → Int32) (nk s b : Nat) : Bool := if nI (zpop 9 s) = nI (zpop 9 b) then decide (zpri (nI s) (fun k => V (100 + k) 1) nk - zpri (nI b) (fun k => V (100 + k) 1) nk < 0) else decide (nI (zpop 9 s) - nI (zpop 9 b) < 0)
def fmc (V : Nat → Nat → Int32) (nk si s : Nat) : Bool := decide (nI s &&& (nI (zsetN (zgd (V (300 + si)) (V (400 + si)) (V (200 + si) 3)) 8) ^^^ (-1)) = 0) && (decide (V (200 + si) 0 ≤ nI (zpop 9 s)) && decide (V (200 + si) 1 ≤ zbc (zzo (nI s) (fun k => V (100 + k) 0) nk)))
def mFw (V : Nat → Nat → Int32) (nk si : Nat) : Int32 := nI (zfB (fmc V nk si) (fml V nk) 255)
def rFw (nk ns : Nat) (x t b : Int32) (V : Nat → Nat → Int32) : Prop := (zin x 0 (nI ns - 1) = false ∧ t = 1) ∨ (∃ si, si < ns ∧ x = nI si ∧ t = 0 ∧ b = mFw V nk si)

set_option maxHeartbeats 4000000 in
set_option maxRecDepth 100000 in
theorem m_Mo_priceOfE {g0 : State} {d : zD} {l : Launch} {a0 : Array Value} (hs0 : zS0 d a0 g0) (hst : l.stackTraces = false) {G : zG} {B : Nat → Nat} {V : Nat → Nat → Int32} {nk ns ne ec : Nat} (hM : zM d B V nk ns ne ec G) (set : Int32) : zMet g0 d l y_Mo_priceOf c_Mo_priceOf 4 ((Option.some Jvm.ClassFile.FieldType.int)) 11 0 0 [.ref (B 0), .int set] (G) (zEq (some (.int (zpri set (fun k => V (100 + k) 1) nk))) G) (zNo) := by
  have hnk : nk ≤ 8 := hM.2.1
  have hns : ns ≤ 6 := hM.2.2.1
  have hne : ne ≤ 64 := hM.2.2.2.1
  have hp2 : 2 ^ nk ≤ 256 := Nat.pow_le_pow_right (n := 2) (by decide) hnk
  refine z_entry hs0 hst (by decide) (Nat.le_of_ble_eq_true rfl) (fun p e s m args below meth c => ?_)
  refine z_iconst (v := (nI 0)) d_Mo_priceOf_0 (by decide) ?_
  refine z_istore_n (L' := [(2, _), (0, _), (1, _)]) d_Mo_priceOf_1 rfl (by decide) rfl ?_
  refine z_iconst (v := (nI 0)) d_Mo_priceOf_2 (by decide) ?_
  refine z_istore_n (L' := [(3, _), (2, _), (0, _), (1, _)]) d_Mo_priceOf_3 rfl (by decide) rfl ?_
  have key_4 : ∀ (n : Nat) (i : Nat), nk - i < n → (i ≤ nk) → Z g0 d y_Mo_priceOf c_Mo_priceOf 4 ((Option.some Jvm.ClassFile.FieldType.int)) [] p l e (zR 11 0 0) s m args below meth c (vx_MQ below (zQc g0 d (zEq (some (.int (zpri set (fun k => V (100 + k) 1) nk))) G)) (zXc g0 d (zNo)) args s 0 0 (zA g0)) 0 0 (G) [(3, .int (nI i)), (2, .int (zpri set (fun k => V (100 + k) 1) i)), (0, .ref (B 0)), (1, .int set)] [] 4 := by
    intro n
    induction n with
    | zero => intro i h0; exact absurd h0 (Nat.not_lt_zero _)
    | succ n ih_4 =>
      intro i hm_4 hi
      refine z_iload_n 0 d_Mo_priceOf_4 rfl rfl ?_
      refine z_aload_n 2 d_Mo_priceOf_5 rfl rfl ?_
      refine z_get zc_Mo 6 (by decide) qF_Mo_16 hM.mo rfl d_Mo_priceOf_6 ?_
      refine z_callF0 (m_AL_size hs0 hst hM.kl) ym_AL_size zF_AL_size qM_Mo_94 zc_AL hM.kl d_Mo_priceOf_9 rfl (Nat.le_of_ble_eq_true rfl) ⟨Nat.zero_le _, Nat.zero_le _⟩ ⟨Nat.le_of_ble_eq_true rfl, Nat.le_of_ble_eq_true rfl⟩ ?_
      refine z_icmp_ge 54 d_Mo_priceOf_14 (by decide) (fun c_14 => ?_) (fun c_14 => ?_)
      · skip
        obtain rfl : nk = i := by
          have := (nI_leI (a := nk) (b := i) (by omega) (by omega)).mp c_14
          omega
        refine z_iload_n 1 d_Mo_priceOf_54 rfl rfl ?_
        exact z_iret rfl (⟨rfl, rfl⟩) (by first | decide | omega) (by first | decide | omega) d_Mo_priceOf_55
      · skip
        have hi6 : i < nk := Nat.lt_of_not_le fun q => c_14 (nI_le q (by omega))
        refine z_iload_n 1 d_Mo_priceOf_17 rfl rfl ?_
        refine z_iload_n 3 d_Mo_priceOf_18 rfl rfl ?_
        refine z_iload_n 0 d_Mo_priceOf_19 rfl rfl ?_
        refine z_callS0 (m_Mo_has hs0 hst set (nI i)) ym_Mo_has qM_Mo_76 qS_Mo_has d_Mo_priceOf_20 rfl (Nat.le_of_ble_eq_true rfl) ⟨Nat.zero_le _, Nat.zero_le _⟩ ⟨Nat.le_of_ble_eq_true rfl, Nat.le_of_ble_eq_true rfl⟩ ?_
        refine z_if_eq 45 d_Mo_priceOf_23 (by decide) (fun c_23 => ?_) (fun c_23 => ?_)
        · skip
          have hz5 : zpri set (fun k => V (100 + k) 1) i + 0 = zpri set (fun k => V (100 + k) 1) (i + 1) := (Int32.add_zero _).trans (zpri_f (p := (fun k => V (100 + k) 1)) (show zbt set i = false from (zb_0 _).mp c_23))
          refine z_iconst (v := 0) d_Mo_priceOf_45 (by decide) ?_
          refine z_iadd d_Mo_priceOf_46 ?_
          refine z_topv hz5 ?_
          refine z_istore_n (L' := [(2, _), (3, _), (0, _), (1, _)]) d_Mo_priceOf_47 rfl (by decide) rfl ?_
          refine z_iinc (v := nI (i + 1)) (L' := [(3, _), (2, _), (0, _), (1, _)]) 1 d_Mo_priceOf_48 rfl (nI_1 i) (by decide) rfl ?_
          refine z_goto 4 d_Mo_priceOf_51 (by decide) ?_
          exact ih_4 (i + 1) (by omega) (by omega)
        · skip
          have hz5 := zpri_t (p := (fun k => V (100 + k) 1)) (show zbt set i = true from (zb_n0 _).mp c_23)
          refine z_aload_n 2 d_Mo_priceOf_26 rfl rfl ?_
          refine z_get zc_Mo 6 (by decide) qF_Mo_16 hM.mo rfl d_Mo_priceOf_27 ?_
          refine z_iload_n 0 d_Mo_priceOf_30 rfl rfl ?_
          refine z_callF0 (m_AL_get hs0 hst (hM.kA hi6) hi6 (if_pos hi6)) ym_AL_get zF_AL_get qM_Mo_51 zc_AL (hM.kA hi6).1 d_Mo_priceOf_31 rfl (Nat.le_of_ble_eq_true rfl) ⟨Nat.zero_le _, Nat.zero_le _⟩ ⟨Nat.le_of_ble_eq_true rfl, Nat.le_of_ble_eq_true rfl⟩ ?_
          refine z_castS zc_MK qK_Mo_57 (hM.ke hi6) d_Mo_priceOf_36 ?_
          refine z_get zc_MK 1 (by decide) qF_Mo_193 (hM.ke hi6) rfl d_Mo_priceOf_39 ?_
          refine z_goto 46 d_Mo_priceOf_42 (by decide) ?_
          refine z_iadd d_Mo_priceOf_46 ?_
          refine z_topv hz5 ?_
          refine z_istore_n (L' := [(2, _), (3, _), (0, _), (1, _)]) d_Mo_priceOf_47 rfl (by decide) rfl ?_
          refine z_iinc (v := nI (i + 1)) (L' := [(3, _), (2, _), (0, _), (1, _)]) 1 d_Mo_priceOf_48 rfl (nI_1 i) (by decide) rfl ?_
          refine z_goto 4 d_Mo_priceOf_51 (by decide) ?_
          exact ih_4 (i + 1) (by omega) (by omega)
  exact key_4 (nk + 1) 0 (by omega) (by omega)
set_option maxHeartbeats 4000000 in
set_option maxRecDepth 100000 in
theorem m_Mo_fewestNowE {g0 : State} {d : zD} {l : Launch} {a0 : Array Value} (hs0 : zS0 d a0 g0) (hst : l.stackTraces = false) {G : zG} {B : Nat → Nat} {V : Nat → Nat → Int32} {nk ns ne ec : Nat} (hM : zM d B V nk ns ne ec G) {si : Nat} (hsi : si < ns) (hzo : ∀ k, k < nk → ∃ z, z < 4 ∧ V (100 + k) 0 = nI z) : zMet g0 d l y_Mo_fewestNow c_Mo_fewestNow 7 ((Option.some Jvm.ClassFile.FieldType.int)) 12 0 0 [.ref (B 0), .int (nI si)] (G) (zEq (some (.int (mFw V nk si))) G) (zNo) := by
  have hnk : nk ≤ 8 := hM.2.1
  have hns : ns ≤ 6 := hM.2.2.1
  have hne : ne ≤ 64 := hM.2.2.2.1
  have hp2 : 2 ^ nk ≤ 256 := Nat.pow_le_pow_right (n := 2) (by decide) hnk
  refine z_entry hs0 hst (by decide) (Nat.le_of_ble_eq_true rfl) (fun p e s m args below meth c => ?_)
  refine z_aload_n 0 d_Mo_fewestNow_0 rfl rfl ?_
  refine z_get zc_Mo 7 (by decide) qF_Mo_20 hM.mo rfl d_Mo_fewestNow_1 ?_
  refine z_iload_n 1 d_Mo_fewestNow_4 rfl rfl ?_
  refine z_callF0 (m_AL_get hs0 hst (hM.sA hsi) hsi (if_pos hsi)) ym_AL_get zF_AL_get qM_Mo_51 zc_AL (hM.sA hsi).1 d_Mo_fewestNow_5 rfl (Nat.le_of_ble_eq_true rfl) ⟨Nat.zero_le _, Nat.zero_le _⟩ ⟨Nat.le_of_ble_eq_true rfl, Nat.le_of_ble_eq_true rfl⟩ ?_
  refine z_castS zc_MS qK_Mo_47 (hM.se hsi).1 d_Mo_fewestNow_10 ?_
  refine z_astore_n (L' := [(2, _), (0, _), (1, _)]) d_Mo_fewestNow_13 rfl (by decide) rfl ?_
  refine z_iconst (v := (nI 0)) d_Mo_fewestNow_14 (by decide) ?_
  refine z_istore_n (L' := [(3, _), (2, _), (0, _), (1, _)]) d_Mo_fewestNow_15 rfl (by decide) rfl ?_
  refine z_iconst (v := (nI (0 + 1))) d_Mo_fewestNow_16 (by decide) ?_
  refine z_istore (L' := [(4, _), (3, _), (2, _), (0, _), (1, _)]) d_Mo_fewestNow_17 (by decide) rfl ?_
  have key_19 : ∀ (n : Nat) (i : Nat), 256 - i < n → (i ≤ 255) → Z g0 d y_Mo_fewestNow c_Mo_fewestNow 7 ((Option.some Jvm.ClassFile.FieldType.int)) [] p l e (zR 12 0 0) s m args below meth c (vx_MQ below (zQc g0 d (zEq (some (.int (mFw V nk si))) G)) (zXc g0 d (zNo)) args s 0 0 (zA g0)) 0 0 (G) [(4, .int (nI (i + 1))), (3, .int (nI (zfB (fmc V nk si) (fml V nk) i))), (2, .ref (B (200 + si))), (0, .ref (B 0)), (1, .int (nI si))] [] 19 := by
    intro n
    induction n with
    | zero => intro i h0; exact absurd h0 (Nat.not_lt_zero _)
    | succ n ih_19 =>
      intro i hm_19 hi
      have hle9 := zfB_le (fmc V nk si) (fml V nk) i
      have hz9 := nI_z (i := (zfB (fmc V nk si) (fml V nk) i)) (by omega)
      refine z_iload 0 d_Mo_fewestNow_19 rfl ?_
      refine z_sipush (v := (nI 256)) d_Mo_fewestNow_21 (by decide) ?_
      refine z_icmp_ge 198 d_Mo_fewestNow_24 (by decide) (fun c_24 => ?_) (fun c_24 => ?_)
      · skip
        obtain rfl : i = 255 := by
          have := (nI_leI (a := 256) (b := i + 1) (by decide) (by omega)).mp c_24
          omega
        refine z_iload_n 1 d_Mo_fewestNow_198 rfl rfl ?_
        exact z_iret rfl (⟨rfl, rfl⟩) (by first | decide | omega) (by first | decide | omega) d_Mo_fewestNow_199
      · skip
        have hi6 : i + 1 < 256 := Nat.lt_of_not_le fun q => c_24 (nI_le (a := 256) (b := i + 1) q (by omega))
        refine z_iload 0 d_Mo_fewestNow_27 rfl ?_
        refine z_aload_n 2 d_Mo_fewestNow_29 rfl rfl ?_
        refine z_callV0 (m_MS_good hs0 hst (hM.se hsi)) ym_MS_good qM_Mo_62 qI_MS_good qV_MS_MS_good zc_MS (hM.se hsi).1 d_Mo_fewestNow_30 rfl (Nat.le_of_ble_eq_true rfl) ⟨Nat.zero_le _, Nat.zero_le _⟩ ⟨Nat.le_of_ble_eq_true rfl, Nat.le_of_ble_eq_true rfl⟩ ?_
        refine z_topv (zset_N _ 8 (by decide)).1 ?_
        refine z_iconst (v := (-1)) d_Mo_fewestNow_33 (by decide) ?_
        refine z_ixor d_Mo_fewestNow_34 ?_
        refine z_iand d_Mo_fewestNow_35 ?_
        refine z_if_ne 192 d_Mo_fewestNow_36 (by decide) (fun c_36 => ?_) (fun c_36 => ?_)
        · skip
          refine z_iinc (v := nI (i + 1 + 1)) (L' := [(4, _), (3, _), (2, _), (0, _), (1, _)]) 0 d_Mo_fewestNow_192 rfl (nI_1 (i + 1)) (by decide) rfl ?_
          refine z_goto 19 d_Mo_fewestNow_195 (by decide) ?_
          first
            | (exfalso; revert c_182; decide)
            | (have e9 := zfB_f (c := (fmc V nk si)) (l := (fml V nk)) (n := i) (Or.inl (fw_1 c_36))
               have hb := ih_19 (i + 1) (by omega) (by omega)
               rw [e9] at hb
               exact hb)
            | (have e9 := zfB_f (c := (fmc V nk si)) (l := (fml V nk)) (n := i) (Or.inl (fw_2 c_48))
               have hb := ih_19 (i + 1) (by omega) (by omega)
               rw [e9] at hb
               exact hb)
            | (have e9 := zfB_f (c := (fmc V nk si)) (l := (fml V nk)) (n := i) (Or.inl (fw_3 c_127))
               have hb := ih_19 (i + 1) (by omega) (by omega)
               rw [e9] at hb
               exact hb)
            | (have e9 := zfB_f (c := (fmc V nk si)) (l := (fml V nk)) (n := i) (Or.inr ⟨fun q => c_134 (congrArg nI q), (if_neg c_150).trans (decide_eq_false (Int32.not_lt.mpr c_182))⟩)
               have hb := ih_19 (i + 1) (by omega) (by omega)
               rw [e9] at hb
               exact hb)
            | (have e9 := zfB_f (c := (fmc V nk si)) (l := (fml V nk)) (n := i) (Or.inr ⟨fun q => c_134 (congrArg nI q), (if_pos c_150).trans (decide_eq_false (Int32.not_lt.mpr c_182))⟩)
               have hb := ih_19 (i + 1) (by omega) (by omega)
               rw [e9] at hb
               exact hb)
            | (have e9 := zfB_t (c := (fmc V nk si)) (l := (fml V nk)) (n := i) (fw_t c_36 c_48 c_127) (Or.inl (hz9.mp c_134))
               have hb := ih_19 (i + 1) (by omega) (by omega)
               rw [e9] at hb
               exact hb)
            | (have e9 := zfB_t (c := (fmc V nk si)) (l := (fml V nk)) (n := i) (fw_t c_36 c_48 c_127) (Or.inr ((if_neg c_150).trans (decide_eq_true (Int32.not_le.mp c_182))))
               have hb := ih_19 (i + 1) (by omega) (by omega)
               rw [e9] at hb
               exact hb)
            | (have e9 := zfB_t (c := (fmc V nk si)) (l := (fml V nk)) (n := i) (fw_t c_36 c_48 c_127) (Or.inr ((if_pos c_150).trans (decide_eq_true (Int32.not_le.mp c_182))))
               have hb := ih_19 (i + 1) (by omega) (by omega)
               rw [e9] at hb
               exact hb)
        · skip
          refine z_iload 0 d_Mo_fewestNow_39 rfl ?_
          refine z_callS0 ((m_Mo_size hs0 hst (nn := i + 1) (by omega))) ym_Mo_size qM_Mo_66 qS_Mo_size d_Mo_fewestNow_41 rfl (Nat.le_of_ble_eq_true rfl) ⟨Nat.zero_le _, Nat.zero_le _⟩ ⟨Nat.le_of_ble_eq_true rfl, Nat.le_of_ble_eq_true rfl⟩ ?_
          refine z_aload_n 2 d_Mo_fewestNow_44 rfl rfl ?_
          refine z_get zc_MS 0 (by decide) qF_Mo_69 (hM.se hsi).1 rfl d_Mo_fewestNow_45 ?_
          refine z_icmp_ge 54 d_Mo_fewestNow_48 (by decide) (fun c_48 => ?_) (fun c_48 => ?_)
          · skip
            refine z_iconst (v := (nI 0)) d_Mo_fewestNow_54 (by decide) ?_
            refine z_istore (L' := [(5, _), (4, _), (3, _), (2, _), (0, _), (1, _)]) d_Mo_fewestNow_55 (by decide) rfl ?_
            refine z_iconst (v := (nI 0)) d_Mo_fewestNow_57 (by decide) ?_
            refine z_istore (L' := [(6, _), (5, _), (4, _), (3, _), (2, _), (0, _), (1, _)]) d_Mo_fewestNow_58 (by decide) rfl ?_
            have key_60 : ∀ (n : Nat) (j : Nat), nk - j < n → (j ≤ nk) → Z g0 d y_Mo_fewestNow c_Mo_fewestNow 7 ((Option.some Jvm.ClassFile.FieldType.int)) [] p l e (zR 12 0 0) s m args below meth c (vx_MQ below (zQc g0 d (zEq (some (.int (mFw V nk si))) G)) (zXc g0 d (zNo)) args s 0 0 (zA g0)) 0 0 (G) [(6, .int (nI j)), (5, .int (zzo (nI (i + 1)) (fun k => V (100 + k) 0) j)), (4, .int (nI (i + 1))), (3, .int (nI (zfB (fmc V nk si) (fml V nk) i))), (2, .ref (B (200 + si))), (0, .ref (B 0)), (1, .int (nI si))] [] 60 := by
              intro n
              induction n with
              | zero => intro j h0; exact absurd h0 (Nat.not_lt_zero _)
              | succ n ih_60 =>
                intro j hm_60 hj
                refine z_iload 0 d_Mo_fewestNow_60 rfl ?_
                refine z_aload_n 5 d_Mo_fewestNow_62 rfl rfl ?_
                refine z_get zc_Mo 6 (by decide) qF_Mo_16 hM.mo rfl d_Mo_fewestNow_63 ?_
                refine z_callF0 (m_AL_size hs0 hst hM.kl) ym_AL_size zF_AL_size qM_Mo_94 zc_AL hM.kl d_Mo_fewestNow_66 rfl (Nat.le_of_ble_eq_true rfl) ⟨Nat.zero_le _, Nat.zero_le _⟩ ⟨Nat.le_of_ble_eq_true rfl, Nat.le_of_ble_eq_true rfl⟩ ?_
                refine z_icmp_ge 118 d_Mo_fewestNow_71 (by decide) (fun c_71 => ?_) (fun c_71 => ?_)
                · skip
                  obtain rfl : nk = j := by
                    have := (nI_leI (a := nk) (b := j) (by omega) (by omega)).mp c_71
                    omega
                  obtain ⟨q9, hq9, eq9⟩ := zzo_lt (set := nI (i + 1)) (zo := (fun k => V (100 + k) 0)) nk hzo
                  have e9z : nI (zpop 9 q9) = zbc (zzo (nI (i + 1)) (fun k => V (100 + k) 0) nk) := by rw [eq9]; exact (zbc_512 q9 (by omega)).symm
                  refine z_iload 1 d_Mo_fewestNow_118 rfl ?_
                  refine z_topv eq9 ?_
                  refine z_callS0 ((m_Mo_size hs0 hst (nn := q9) (by omega))) ym_Mo_size qM_Mo_66 qS_Mo_size d_Mo_fewestNow_120 rfl (Nat.le_of_ble_eq_true rfl) ⟨Nat.zero_le _, Nat.zero_le _⟩ ⟨Nat.le_of_ble_eq_true rfl, Nat.le_of_ble_eq_true rfl⟩ ?_
                  refine z_topv e9z ?_
                  refine z_aload_n 4 d_Mo_fewestNow_123 rfl rfl ?_
                  refine z_get zc_MS 1 (by decide) qF_Mo_99 (hM.se hsi).1 rfl d_Mo_fewestNow_124 ?_
                  refine z_icmp_ge 133 d_Mo_fewestNow_127 (by decide) (fun c_127 => ?_) (fun c_127 => ?_)
                  · skip
                    refine z_iload_n 3 d_Mo_fewestNow_133 rfl rfl ?_
                    refine z_if_ne 141 d_Mo_fewestNow_134 (by decide) (fun c_134 => ?_) (fun c_134 => ?_)
                    · skip
                      refine z_iload 2 d_Mo_fewestNow_141 rfl ?_
                      refine z_callS0 ((m_Mo_size hs0 hst (nn := i + 1) (by omega))) ym_Mo_size qM_Mo_66 qS_Mo_size d_Mo_fewestNow_143 rfl (Nat.le_of_ble_eq_true rfl) ⟨Nat.zero_le _, Nat.zero_le _⟩ ⟨Nat.le_of_ble_eq_true rfl, Nat.le_of_ble_eq_true rfl⟩ ?_
                      refine z_iload_n 3 d_Mo_fewestNow_146 rfl rfl ?_
                      refine z_callS0 ((m_Mo_size hs0 hst (nn := (zfB (fmc V nk si) (fml V nk) i)) (by omega))) ym_Mo_size qM_Mo_66 qS_Mo_size d_Mo_fewestNow_147 rfl (Nat.le_of_ble_eq_true rfl) ⟨Nat.zero_le _, Nat.zero_le _⟩ ⟨Nat.le_of_ble_eq_true rfl, Nat.le_of_ble_eq_true rfl⟩ ?_
                      refine z_icmp_eq 166 d_Mo_fewestNow_150 (by decide) (fun c_150 => ?_) (fun c_150 => ?_)
                      · skip
                        refine z_aload_n 5 d_Mo_fewestNow_166 rfl rfl ?_
                        refine z_iload 2 d_Mo_fewestNow_167 rfl ?_
                        refine z_callV0 ((m_Mo_priceOfE hs0 hst hM _)) ym_Mo_priceOf qM_Mo_207 qI_Mo_priceOf qV_Mo_Mo_priceOf zc_Mo hM.mo d_Mo_fewestNow_169 rfl (Nat.le_of_ble_eq_true rfl) ⟨Nat.zero_le _, Nat.zero_le _⟩ ⟨Nat.le_of_ble_eq_true rfl, Nat.le_of_ble_eq_true rfl⟩ ?_
                        refine z_aload_n 5 d_Mo_fewestNow_172 rfl rfl ?_
                        refine z_iload_n 3 d_Mo_fewestNow_173 rfl rfl ?_
                        refine z_callV0 ((m_Mo_priceOfE hs0 hst hM _)) ym_Mo_priceOf qM_Mo_207 qI_Mo_priceOf qV_Mo_Mo_priceOf zc_Mo hM.mo d_Mo_fewestNow_174 rfl (Nat.le_of_ble_eq_true rfl) ⟨Nat.zero_le _, Nat.zero_le _⟩ ⟨Nat.le_of_ble_eq_true rfl, Nat.le_of_ble_eq_true rfl⟩ ?_
                        refine z_isub d_Mo_fewestNow_177 ?_
                        refine z_istore (L' := [(6, _), (5, _), (4, _), (3, _), (2, _), (0, _), (1, _)]) d_Mo_fewestNow_178 (by decide) rfl ?_
                        refine z_iload 0 d_Mo_fewestNow_180 rfl ?_
                        refine z_if_ge 190 d_Mo_fewestNow_182 (by decide) (fun c_182 => ?_) (fun c_182 => ?_)
                        · skip
                          refine z_iload_n 3 d_Mo_fewestNow_190 rfl rfl ?_
                          refine z_istore_n (L' := [(3, _), (6, _), (5, _), (4, _), (2, _), (0, _), (1, _)]) d_Mo_fewestNow_191 rfl (by decide) rfl ?_
                          refine z_iinc (v := nI (i + 1 + 1)) (L' := [(4, _), (3, _), (6, _), (5, _), (2, _), (0, _), (1, _)]) 3 d_Mo_fewestNow_192 rfl (nI_1 (i + 1)) (by decide) rfl ?_
                          refine z_goto 19 d_Mo_fewestNow_195 (by decide) ?_
                          refine z_sub (L' := [(4, _), (3, _), (2, _), (0, _), (1, _)]) [0, 1, 4, 5, 6] rfl ?_
                          first
                            | (exfalso; revert c_182; decide)
                            | (have e9 := zfB_f (c := (fmc V nk si)) (l := (fml V nk)) (n := i) (Or.inl (fw_1 c_36))
                               have hb := ih_19 (i + 1) (by omega) (by omega)
                               rw [e9] at hb
                               exact hb)
                            | (have e9 := zfB_f (c := (fmc V nk si)) (l := (fml V nk)) (n := i) (Or.inl (fw_2 c_48))
                               have hb := ih_19 (i + 1) (by omega) (by omega)
                               rw [e9] at hb
                               exact hb)
                            | (have e9 := zfB_f (c := (fmc V nk si)) (l := (fml V nk)) (n := i) (Or.inl (fw_3 c_127))
                               have hb := ih_19 (i + 1) (by omega) (by omega)
                               rw [e9] at hb
                               exact hb)
                            | (have e9 := zfB_f (c := (fmc V nk si)) (l := (fml V nk)) (n := i) (Or.inr ⟨fun q => c_134 (congrArg nI q), (if_neg c_150).trans (decide_eq_false (Int32.not_lt.mpr c_182))⟩)
                               have hb := ih_19 (i + 1) (by omega) (by omega)
                               rw [e9] at hb
                               exact hb)
                            | (have e9 := zfB_f (c := (fmc V nk si)) (l := (fml V nk)) (n := i) (Or.inr ⟨fun q => c_134 (congrArg nI q), (if_pos c_150).trans (decide_eq_false (Int32.not_lt.mpr c_182))⟩)
                               have hb := ih_19 (i + 1) (by omega) (by omega)
                               rw [e9] at hb
                               exact hb)
                            | (have e9 := zfB_t (c := (fmc V nk si)) (l := (fml V nk)) (n := i) (fw_t c_36 c_48 c_127) (Or.inl (hz9.mp c_134))
                               have hb := ih_19 (i + 1) (by omega) (by omega)
                               rw [e9] at hb
                               exact hb)
                            | (have e9 := zfB_t (c := (fmc V nk si)) (l := (fml V nk)) (n := i) (fw_t c_36 c_48 c_127) (Or.inr ((if_neg c_150).trans (decide_eq_true (Int32.not_le.mp c_182))))
                               have hb := ih_19 (i + 1) (by omega) (by omega)
                               rw [e9] at hb
                               exact hb)
                            | (have e9 := zfB_t (c := (fmc V nk si)) (l := (fml V nk)) (n := i) (fw_t c_36 c_48 c_127) (Or.inr ((if_pos c_150).trans (decide_eq_true (Int32.not_le.mp c_182))))
                               have hb := ih_19 (i + 1) (by omega) (by omega)
                               rw [e9] at hb
                               exact hb)
                        · skip
                          refine z_iload 2 d_Mo_fewestNow_185 rfl ?_
                          refine z_goto 191 d_Mo_fewestNow_187 (by decide) ?_
                          refine z_istore_n (L' := [(3, _), (6, _), (5, _), (4, _), (2, _), (0, _), (1, _)]) d_Mo_fewestNow_191 rfl (by decide) rfl ?_
                          refine z_iinc (v := nI (i + 1 + 1)) (L' := [(4, _), (3, _), (6, _), (5, _), (2, _), (0, _), (1, _)]) 3 d_Mo_fewestNow_192 rfl (nI_1 (i + 1)) (by decide) rfl ?_
                          refine z_goto 19 d_Mo_fewestNow_195 (by decide) ?_
                          refine z_sub (L' := [(4, _), (3, _), (2, _), (0, _), (1, _)]) [0, 1, 4, 5, 6] rfl ?_
                          first
                            | (exfalso; revert c_182; decide)
                            | (have e9 := zfB_f (c := (fmc V nk si)) (l := (fml V nk)) (n := i) (Or.inl (fw_1 c_36))
                               have hb := ih_19 (i + 1) (by omega) (by omega)
                               rw [e9] at hb
                               exact hb)
                            | (have e9 := zfB_f (c := (fmc V nk si)) (l := (fml V nk)) (n := i) (Or.inl (fw_2 c_48))
                               have hb := ih_19 (i + 1) (by omega) (by omega)
                               rw [e9] at hb
                               exact hb)
                            | (have e9 := zfB_f (c := (fmc V nk si)) (l := (fml V nk)) (n := i) (Or.inl (fw_3 c_127))
                               have hb := ih_19 (i + 1) (by omega) (by omega)
                               rw [e9] at hb
                               exact hb)
                            | (have e9 := zfB_f (c := (fmc V nk si)) (l := (fml V nk)) (n := i) (Or.inr ⟨fun q => c_134 (congrArg nI q), (if_neg c_150).trans (decide_eq_false (Int32.not_lt.mpr c_182))⟩)
                               have hb := ih_19 (i + 1) (by omega) (by omega)
                               rw [e9] at hb
                               exact hb)
                            | (have e9 := zfB_f (c := (fmc V nk si)) (l := (fml V nk)) (n := i) (Or.inr ⟨fun q => c_134 (congrArg nI q), (if_pos c_150).trans (decide_eq_false (Int32.not_lt.mpr c_182))⟩)
                               have hb := ih_19 (i + 1) (by omega) (by omega)
                               rw [e9] at hb
                               exact hb)
                            | (have e9 := zfB_t (c := (fmc V nk si)) (l := (fml V nk)) (n := i) (fw_t c_36 c_48 c_127) (Or.inl (hz9.mp c_134))
                               have hb := ih_19 (i + 1) (by omega) (by omega)
                               rw [e9] at hb
                               exact hb)
                            | (have e9 := zfB_t (c := (fmc V nk si)) (l := (fml V nk)) (n := i) (fw_t c_36 c_48 c_127) (Or.inr ((if_neg c_150).trans (decide_eq_true (Int32.not_le.mp c_182))))
                               have hb := ih_19 (i + 1) (by omega) (by omega)
                               rw [e9] at hb
                               exact hb)
                            | (have e9 := zfB_t (c := (fmc V nk si)) (l := (fml V nk)) (n := i) (fw_t c_36 c_48 c_127) (Or.inr ((if_pos c_150).trans (decide_eq_true (Int32.not_le.mp c_182))))
                               have hb := ih_19 (i + 1) (by omega) (by omega)
                               rw [e9] at hb
                               exact hb)
                      · skip
                        refine z_iload 2 d_Mo_fewestNow_153 rfl ?_
                        refine z_callS0 ((m_Mo_size hs0 hst (nn := i + 1) (by omega))) ym_Mo_size qM_Mo_66 qS_Mo_size d_Mo_fewestNow_155 rfl (Nat.le_of_ble_eq_true rfl) ⟨Nat.zero_le _, Nat.zero_le _⟩ ⟨Nat.le_of_ble_eq_true rfl, Nat.le_of_ble_eq_true rfl⟩ ?_
                        refine z_iload_n 3 d_Mo_fewestNow_158 rfl rfl ?_
                        refine z_callS0 ((m_Mo_size hs0 hst (nn := (zfB (fmc V nk si) (fml V nk) i)) (by omega))) ym_Mo_size qM_Mo_66 qS_Mo_size d_Mo_fewestNow_159 rfl (Nat.le_of_ble_eq_true rfl) ⟨Nat.zero_le _, Nat.zero_le _⟩ ⟨Nat.le_of_ble_eq_true rfl, Nat.le_of_ble_eq_true rfl⟩ ?_
                        refine z_isub d_Mo_fewestNow_162 ?_
                        refine z_goto 178 d_Mo_fewestNow_163 (by decide) ?_
                        refine z_istore (L' := [(6, _), (5, _), (4, _), (3, _), (2, _), (0, _), (1, _)]) d_Mo_fewestNow_178 (by decide) rfl ?_
                        refine z_iload 0 d_Mo_fewestNow_180 rfl ?_
                        refine z_if_ge 190 d_Mo_fewestNow_182 (by decide) (fun c_182 => ?_) (fun c_182 => ?_)
                        · skip
                          refine z_iload_n 3 d_Mo_fewestNow_190 rfl rfl ?_
                          refine z_istore_n (L' := [(3, _), (6, _), (5, _), (4, _), (2, _), (0, _), (1, _)]) d_Mo_fewestNow_191 rfl (by decide) rfl ?_
                          refine z_iinc (v := nI (i + 1 + 1)) (L' := [(4, _), (3, _), (6, _), (5, _), (2, _), (0, _), (1, _)]) 3 d_Mo_fewestNow_192 rfl (nI_1 (i + 1)) (by decide) rfl ?_
                          refine z_goto 19 d_Mo_fewestNow_195 (by decide) ?_
                          refine z_sub (L' := [(4, _), (3, _), (2, _), (0, _), (1, _)]) [0, 1, 4, 5, 6] rfl ?_
                          first
                            | (exfalso; revert c_182; decide)
                            | (have e9 := zfB_f (c := (fmc V nk si)) (l := (fml V nk)) (n := i) (Or.inl (fw_1 c_36))
                               have hb := ih_19 (i + 1) (by omega) (by omega)
                               rw [e9] at hb
                               exact hb)
                            | (have e9 := zfB_f (c := (fmc V nk si)) (l := (fml V nk)) (n := i) (Or.inl (fw_2 c_48))
                               have hb := ih_19 (i + 1) (by omega) (by omega)
                               rw [e9] at hb
                               exact hb)
                            | (have e9 := zfB_f (c := (fmc V nk si)) (l := (fml V nk)) (n := i) (Or.inl (fw_3 c_127))
                               have hb := ih_19 (i + 1) (by omega) (by omega)
                               rw [e9] at hb
                               exact hb)
                            | (have e9 := zfB_f (c := (fmc V nk si)) (l := (fml V nk)) (n := i) (Or.inr ⟨fun q => c_134 (congrArg nI q), (if_neg c_150).trans (decide_eq_false (Int32.not_lt.mpr c_182))⟩)
                               have hb := ih_19 (i + 1) (by omega) (by omega)
                               rw [e9] at hb
                               exact hb)
                            | (have e9 := zfB_f (c := (fmc V nk si)) (l := (fml V nk)) (n := i) (Or.inr ⟨fun q => c_134 (congrArg nI q), (if_pos c_150).trans (decide_eq_false (Int32.not_lt.mpr c_182))⟩)
                               have hb := ih_19 (i + 1) (by omega) (by omega)
                               rw [e9] at hb
                               exact hb)
                            | (have e9 := zfB_t (c := (fmc V nk si)) (l := (fml V nk)) (n := i) (fw_t c_36 c_48 c_127) (Or.inl (hz9.mp c_134))
                               have hb := ih_19 (i + 1) (by omega) (by omega)
                               rw [e9] at hb
                               exact hb)
                            | (have e9 := zfB_t (c := (fmc V nk si)) (l := (fml V nk)) (n := i) (fw_t c_36 c_48 c_127) (Or.inr ((if_neg c_150).trans (decide_eq_true (Int32.not_le.mp c_182))))
                               have hb := ih_19 (i + 1) (by omega) (by omega)
                               rw [e9] at hb
                               exact hb)
                            | (have e9 := zfB_t (c := (fmc V nk si)) (l := (fml V nk)) (n := i) (fw_t c_36 c_48 c_127) (Or.inr ((if_pos c_150).trans (decide_eq_true (Int32.not_le.mp c_182))))
                               have hb := ih_19 (i + 1) (by omega) (by omega)
                               rw [e9] at hb
                               exact hb)
                        · skip
                          refine z_iload 2 d_Mo_fewestNow_185 rfl ?_
                          refine z_goto 191 d_Mo_fewestNow_187 (by decide) ?_
                          refine z_istore_n (L' := [(3, _), (6, _), (5, _), (4, _), (2, _), (0, _), (1, _)]) d_Mo_fewestNow_191 rfl (by decide) rfl ?_
                          refine z_iinc (v := nI (i + 1 + 1)) (L' := [(4, _), (3, _), (6, _), (5, _), (2, _), (0, _), (1, _)]) 3 d_Mo_fewestNow_192 rfl (nI_1 (i + 1)) (by decide) rfl ?_
                          refine z_goto 19 d_Mo_fewestNow_195 (by decide) ?_
                          refine z_sub (L' := [(4, _), (3, _), (2, _), (0, _), (1, _)]) [0, 1, 4, 5, 6] rfl ?_
                          first
                            | (exfalso; revert c_182; decide)
                            | (have e9 := zfB_f (c := (fmc V nk si)) (l := (fml V nk)) (n := i) (Or.inl (fw_1 c_36))
                               have hb := ih_19 (i + 1) (by omega) (by omega)
                               rw [e9] at hb
                               exact hb)
                            | (have e9 := zfB_f (c := (fmc V nk si)) (l := (fml V nk)) (n := i) (Or.inl (fw_2 c_48))
                               have hb := ih_19 (i + 1) (by omega) (by omega)
                               rw [e9] at hb
                               exact hb)
                            | (have e9 := zfB_f (c := (fmc V nk si)) (l := (fml V nk)) (n := i) (Or.inl (fw_3 c_127))
                               have hb := ih_19 (i + 1) (by omega) (by omega)
                               rw [e9] at hb
                               exact hb)
                            | (have e9 := zfB_f (c := (fmc V nk si)) (l := (fml V nk)) (n := i) (Or.inr ⟨fun q => c_134 (congrArg nI q), (if_neg c_150).trans (decide_eq_false (Int32.not_lt.mpr c_182))⟩)
                               have hb := ih_19 (i + 1) (by omega) (by omega)
                               rw [e9] at hb
                               exact hb)
                            | (have e9 := zfB_f (c := (fmc V nk si)) (l := (fml V nk)) (n := i) (Or.inr ⟨fun q => c_134 (congrArg nI q), (if_pos c_150).trans (decide_eq_false (Int32.not_lt.mpr c_182))⟩)
                               have hb := ih_19 (i + 1) (by omega) (by omega)
                               rw [e9] at hb
                               exact hb)
                            | (have e9 := zfB_t (c := (fmc V nk si)) (l := (fml V nk)) (n := i) (fw_t c_36 c_48 c_127) (Or.inl (hz9.mp c_134))
                               have hb := ih_19 (i + 1) (by omega) (by omega)
                               rw [e9] at hb
                               exact hb)
                            | (have e9 := zfB_t (c := (fmc V nk si)) (l := (fml V nk)) (n := i) (fw_t c_36 c_48 c_127) (Or.inr ((if_neg c_150).trans (decide_eq_true (Int32.not_le.mp c_182))))
                               have hb := ih_19 (i + 1) (by omega) (by omega)
                               rw [e9] at hb
                               exact hb)
                            | (have e9 := zfB_t (c := (fmc V nk si)) (l := (fml V nk)) (n := i) (fw_t c_36 c_48 c_127) (Or.inr ((if_pos c_150).trans (decide_eq_true (Int32.not_le.mp c_182))))
                               have hb := ih_19 (i + 1) (by omega) (by omega)
                               rw [e9] at hb
                               exact hb)
                    · skip
                      refine z_iconst (v := (-1)) d_Mo_fewestNow_137 (by decide) ?_
                      refine z_goto 178 d_Mo_fewestNow_138 (by decide) ?_
                      refine z_istore (L' := [(6, _), (5, _), (4, _), (3, _), (2, _), (0, _), (1, _)]) d_Mo_fewestNow_178 (by decide) rfl ?_
                      refine z_iload 0 d_Mo_fewestNow_180 rfl ?_
                      refine z_if_ge 190 d_Mo_fewestNow_182 (by decide) (fun c_182 => ?_) (fun c_182 => ?_)
                      · skip
                        refine z_iload_n 3 d_Mo_fewestNow_190 rfl rfl ?_
                        refine z_istore_n (L' := [(3, _), (6, _), (5, _), (4, _), (2, _), (0, _), (1, _)]) d_Mo_fewestNow_191 rfl (by decide) rfl ?_
                        refine z_iinc (v := nI (i + 1 + 1)) (L' := [(4, _), (3, _), (6, _), (5, _), (2, _), (0, _), (1, _)]) 3 d_Mo_fewestNow_192 rfl (nI_1 (i + 1)) (by decide) rfl ?_
                        refine z_goto 19 d_Mo_fewestNow_195 (by decide) ?_
                        refine z_sub (L' := [(4, _), (3, _), (2, _), (0, _), (1, _)]) [0, 1, 4, 5, 6] rfl ?_
                        first
                          | (exfalso; revert c_182; decide)
                          | (have e9 := zfB_f (c := (fmc V nk si)) (l := (fml V nk)) (n := i) (Or.inl (fw_1 c_36))
                             have hb := ih_19 (i + 1) (by omega) (by omega)
                             rw [e9] at hb
                             exact hb)
                          | (have e9 := zfB_f (c := (fmc V nk si)) (l := (fml V nk)) (n := i) (Or.inl (fw_2 c_48))
                             have hb := ih_19 (i + 1) (by omega) (by omega)
                             rw [e9] at hb
                             exact hb)
                          | (have e9 := zfB_f (c := (fmc V nk si)) (l := (fml V nk)) (n := i) (Or.inl (fw_3 c_127))
                             have hb := ih_19 (i + 1) (by omega) (by omega)
                             rw [e9] at hb
                             exact hb)
                          | (have e9 := zfB_f (c := (fmc V nk si)) (l := (fml V nk)) (n := i) (Or.inr ⟨fun q => c_134 (congrArg nI q), (if_neg c_150).trans (decide_eq_false (Int32.not_lt.mpr c_182))⟩)
                             have hb := ih_19 (i + 1) (by omega) (by omega)
                             rw [e9] at hb
                             exact hb)
                          | (have e9 := zfB_f (c := (fmc V nk si)) (l := (fml V nk)) (n := i) (Or.inr ⟨fun q => c_134 (congrArg nI q), (if_pos c_150).trans (decide_eq_false (Int32.not_lt.mpr c_182))⟩)
                             have hb := ih_19 (i + 1) (by omega) (by omega)
                             rw [e9] at hb
                             exact hb)
                          | (have e9 := zfB_t (c := (fmc V nk si)) (l := (fml V nk)) (n := i) (fw_t c_36 c_48 c_127) (Or.inl (hz9.mp c_134))
                             have hb := ih_19 (i + 1) (by omega) (by omega)
                             rw [e9] at hb
                             exact hb)
                          | (have e9 := zfB_t (c := (fmc V nk si)) (l := (fml V nk)) (n := i) (fw_t c_36 c_48 c_127) (Or.inr ((if_neg c_150).trans (decide_eq_true (Int32.not_le.mp c_182))))
                             have hb := ih_19 (i + 1) (by omega) (by omega)
                             rw [e9] at hb
                             exact hb)
                          | (have e9 := zfB_t (c := (fmc V nk si)) (l := (fml V nk)) (n := i) (fw_t c_36 c_48 c_127) (Or.inr ((if_pos c_150).trans (decide_eq_true (Int32.not_le.mp c_182))))
                             have hb := ih_19 (i + 1) (by omega) (by omega)
                             rw [e9] at hb
                             exact hb)
                      · skip
                        refine z_iload 2 d_Mo_fewestNow_185 rfl ?_
                        refine z_goto 191 d_Mo_fewestNow_187 (by decide) ?_
                        refine z_istore_n (L' := [(3, _), (6, _), (5, _), (4, _), (2, _), (0, _), (1, _)]) d_Mo_fewestNow_191 rfl (by decide) rfl ?_
                        refine z_iinc (v := nI (i + 1 + 1)) (L' := [(4, _), (3, _), (6, _), (5, _), (2, _), (0, _), (1, _)]) 3 d_Mo_fewestNow_192 rfl (nI_1 (i + 1)) (by decide) rfl ?_
                        refine z_goto 19 d_Mo_fewestNow_195 (by decide) ?_
                        refine z_sub (L' := [(4, _), (3, _), (2, _), (0, _), (1, _)]) [0, 1, 4, 5, 6] rfl ?_
                        first
                          | (exfalso; revert c_182; decide)
                          | (have e9 := zfB_f (c := (fmc V nk si)) (l := (fml V nk)) (n := i) (Or.inl (fw_1 c_36))
                             have hb := ih_19 (i + 1) (by omega) (by omega)
                             rw [e9] at hb
                             exact hb)
                          | (have e9 := zfB_f (c := (fmc V nk si)) (l := (fml V nk)) (n := i) (Or.inl (fw_2 c_48))
                             have hb := ih_19 (i + 1) (by omega) (by omega)
                             rw [e9] at hb
                             exact hb)
                          | (have e9 := zfB_f (c := (fmc V nk si)) (l := (fml V nk)) (n := i) (Or.inl (fw_3 c_127))
                             have hb := ih_19 (i + 1) (by omega) (by omega)
                             rw [e9] at hb
                             exact hb)
                          | (have e9 := zfB_f (c := (fmc V nk si)) (l := (fml V nk)) (n := i) (Or.inr ⟨fun q => c_134 (congrArg nI q), (if_neg c_150).trans (decide_eq_false (Int32.not_lt.mpr c_182))⟩)
                             have hb := ih_19 (i + 1) (by omega) (by omega)
                             rw [e9] at hb
                             exact hb)
                          | (have e9 := zfB_f (c := (fmc V nk si)) (l := (fml V nk)) (n := i) (Or.inr ⟨fun q => c_134 (congrArg nI q), (if_pos c_150).trans (decide_eq_false (Int32.not_lt.mpr c_182))⟩)
                             have hb := ih_19 (i + 1) (by omega) (by omega)
                             rw [e9] at hb
                             exact hb)
                          | (have e9 := zfB_t (c := (fmc V nk si)) (l := (fml V nk)) (n := i) (fw_t c_36 c_48 c_127) (Or.inl (hz9.mp c_134))
                             have hb := ih_19 (i + 1) (by omega) (by omega)
                             rw [e9] at hb
                             exact hb)
                          | (have e9 := zfB_t (c := (fmc V nk si)) (l := (fml V nk)) (n := i) (fw_t c_36 c_48 c_127) (Or.inr ((if_neg c_150).trans (decide_eq_true (Int32.not_le.mp c_182))))
                             have hb := ih_19 (i + 1) (by omega) (by omega)
                             rw [e9] at hb
                             exact hb)
                          | (have e9 := zfB_t (c := (fmc V nk si)) (l := (fml V nk)) (n := i) (fw_t c_36 c_48 c_127) (Or.inr ((if_pos c_150).trans (decide_eq_true (Int32.not_le.mp c_182))))
                             have hb := ih_19 (i + 1) (by omega) (by omega)
                             rw [e9] at hb
                             exact hb)
                  · skip
                    refine z_goto 192 d_Mo_fewestNow_130 (by decide) ?_
                    refine z_iinc (v := nI (i + 1 + 1)) (L' := [(4, _), (6, _), (5, _), (3, _), (2, _), (0, _), (1, _)]) 2 d_Mo_fewestNow_192 rfl (nI_1 (i + 1)) (by decide) rfl ?_
                    refine z_goto 19 d_Mo_fewestNow_195 (by decide) ?_
                    refine z_sub (L' := [(4, _), (3, _), (2, _), (0, _), (1, _)]) [0, 3, 4, 5, 6] rfl ?_
                    first
                      | (exfalso; revert c_182; decide)
                      | (have e9 := zfB_f (c := (fmc V nk si)) (l := (fml V nk)) (n := i) (Or.inl (fw_1 c_36))
                         have hb := ih_19 (i + 1) (by omega) (by omega)
                         rw [e9] at hb
                         exact hb)
                      | (have e9 := zfB_f (c := (fmc V nk si)) (l := (fml V nk)) (n := i) (Or.inl (fw_2 c_48))
                         have hb := ih_19 (i + 1) (by omega) (by omega)
                         rw [e9] at hb
                         exact hb)
                      | (have e9 := zfB_f (c := (fmc V nk si)) (l := (fml V nk)) (n := i) (Or.inl (fw_3 c_127))
                         have hb := ih_19 (i + 1) (by omega) (by omega)
                         rw [e9] at hb
                         exact hb)
                      | (have e9 := zfB_f (c := (fmc V nk si)) (l := (fml V nk)) (n := i) (Or.inr ⟨fun q => c_134 (congrArg nI q), (if_neg c_150).trans (decide_eq_false (Int32.not_lt.mpr c_182))⟩)
                         have hb := ih_19 (i + 1) (by omega) (by omega)
                         rw [e9] at hb
                         exact hb)
                      | (have e9 := zfB_f (c := (fmc V nk si)) (l := (fml V nk)) (n := i) (Or.inr ⟨fun q => c_134 (congrArg nI q), (if_pos c_150).trans (decide_eq_false (Int32.not_lt.mpr c_182))⟩)
                         have hb := ih_19 (i + 1) (by omega) (by omega)
                         rw [e9] at hb
                         exact hb)
                      | (have e9 := zfB_t (c := (fmc V nk si)) (l := (fml V nk)) (n := i) (fw_t c_36 c_48 c_127) (Or.inl (hz9.mp c_134))
                         have hb := ih_19 (i + 1) (by omega) (by omega)
                         rw [e9] at hb
                         exact hb)
                      | (have e9 := zfB_t (c := (fmc V nk si)) (l := (fml V nk)) (n := i) (fw_t c_36 c_48 c_127) (Or.inr ((if_neg c_150).trans (decide_eq_true (Int32.not_le.mp c_182))))
                         have hb := ih_19 (i + 1) (by omega) (by omega)
                         rw [e9] at hb
                         exact hb)
                      | (have e9 := zfB_t (c := (fmc V nk si)) (l := (fml V nk)) (n := i) (fw_t c_36 c_48 c_127) (Or.inr ((if_pos c_150).trans (decide_eq_true (Int32.not_le.mp c_182))))
                         have hb := ih_19 (i + 1) (by omega) (by omega)
                         rw [e9] at hb
                         exact hb)
                · skip
                  have hj6 : j < nk := Nat.lt_of_not_le fun q => c_71 (nI_le q (by omega))
                  refine z_iload 1 d_Mo_fewestNow_74 rfl ?_
                  refine z_iload 2 d_Mo_fewestNow_76 rfl ?_
                  refine z_iload 0 d_Mo_fewestNow_78 rfl ?_
                  refine z_callS0 (m_Mo_has hs0 hst (nI (i + 1)) (nI j)) ym_Mo_has qM_Mo_76 qS_Mo_has d_Mo_fewestNow_80 rfl (Nat.le_of_ble_eq_true rfl) ⟨Nat.zero_le _, Nat.zero_le _⟩ ⟨Nat.le_of_ble_eq_true rfl, Nat.le_of_ble_eq_true rfl⟩ ?_
                  refine z_if_eq 108 d_Mo_fewestNow_83 (by decide) (fun c_83 => ?_) (fun c_83 => ?_)
                  · skip
                    refine z_iconst (v := 0) d_Mo_fewestNow_108 (by decide) ?_
                    refine z_ior d_Mo_fewestNow_109 ?_
                    first
                      | refine z_topv (zzo_t (zo := (fun k => V (100 + k) 0)) (show zbt (nI (i + 1)) j = true from (zb_n0 _).mp c_83)) ?_
                      | refine z_topv ((Int32.or_zero).trans (zzo_f (zo := (fun k => V (100 + k) 0)) (show zbt (nI (i + 1)) j = false from (zb_0 _).mp c_83))) ?_
                    refine z_istore (L' := [(5, _), (6, _), (4, _), (3, _), (2, _), (0, _), (1, _)]) d_Mo_fewestNow_110 (by decide) rfl ?_
                    refine z_iinc (v := nI (j + 1)) (L' := [(6, _), (5, _), (4, _), (3, _), (2, _), (0, _), (1, _)]) 1 d_Mo_fewestNow_112 rfl (nI_1 j) (by decide) rfl ?_
                    refine z_goto 60 d_Mo_fewestNow_115 (by decide) ?_
                    exact ih_60 (j + 1) (by omega) (by omega)
                  · skip
                    refine z_iconst (v := 1) d_Mo_fewestNow_86 (by decide) ?_
                    refine z_aload_n 5 d_Mo_fewestNow_87 rfl rfl ?_
                    refine z_get zc_Mo 6 (by decide) qF_Mo_16 hM.mo rfl d_Mo_fewestNow_88 ?_
                    refine z_iload 0 d_Mo_fewestNow_91 rfl ?_
                    refine z_callF0 (m_AL_get hs0 hst (hM.kA hj6) hj6 (if_pos hj6)) ym_AL_get zF_AL_get qM_Mo_51 zc_AL (hM.kA hj6).1 d_Mo_fewestNow_93 rfl (Nat.le_of_ble_eq_true rfl) ⟨Nat.zero_le _, Nat.zero_le _⟩ ⟨Nat.le_of_ble_eq_true rfl, Nat.le_of_ble_eq_true rfl⟩ ?_
                    refine z_castS zc_MK qK_Mo_57 (hM.ke hj6) d_Mo_fewestNow_98 ?_
                    refine z_get zc_MK 0 (by decide) qF_Mo_96 (hM.ke hj6) rfl d_Mo_fewestNow_101 ?_
                    refine z_ishl d_Mo_fewestNow_104 ?_
                    refine z_goto 109 d_Mo_fewestNow_105 (by decide) ?_
                    refine z_ior d_Mo_fewestNow_109 ?_
                    first
                      | refine z_topv (zzo_t (zo := (fun k => V (100 + k) 0)) (show zbt (nI (i + 1)) j = true from (zb_n0 _).mp c_83)) ?_
                      | refine z_topv ((Int32.or_zero).trans (zzo_f (zo := (fun k => V (100 + k) 0)) (show zbt (nI (i + 1)) j = false from (zb_0 _).mp c_83))) ?_
                    refine z_istore (L' := [(5, _), (6, _), (4, _), (3, _), (2, _), (0, _), (1, _)]) d_Mo_fewestNow_110 (by decide) rfl ?_
                    refine z_iinc (v := nI (j + 1)) (L' := [(6, _), (5, _), (4, _), (3, _), (2, _), (0, _), (1, _)]) 1 d_Mo_fewestNow_112 rfl (nI_1 j) (by decide) rfl ?_
                    refine z_goto 60 d_Mo_fewestNow_115 (by decide) ?_
                    exact ih_60 (j + 1) (by omega) (by omega)
            exact key_60 (nk + 1) 0 (by omega) (by omega)
          · skip
            refine z_goto 192 d_Mo_fewestNow_51 (by decide) ?_
            refine z_iinc (v := nI (i + 1 + 1)) (L' := [(4, _), (3, _), (2, _), (0, _), (1, _)]) 0 d_Mo_fewestNow_192 rfl (nI_1 (i + 1)) (by decide) rfl ?_
            refine z_goto 19 d_Mo_fewestNow_195 (by decide) ?_
            first
              | (exfalso; revert c_182; decide)
              | (have e9 := zfB_f (c := (fmc V nk si)) (l := (fml V nk)) (n := i) (Or.inl (fw_1 c_36))
                 have hb := ih_19 (i + 1) (by omega) (by omega)
                 rw [e9] at hb
                 exact hb)
              | (have e9 := zfB_f (c := (fmc V nk si)) (l := (fml V nk)) (n := i) (Or.inl (fw_2 c_48))
                 have hb := ih_19 (i + 1) (by omega) (by omega)
                 rw [e9] at hb
                 exact hb)
              | (have e9 := zfB_f (c := (fmc V nk si)) (l := (fml V nk)) (n := i) (Or.inl (fw_3 c_127))
                 have hb := ih_19 (i + 1) (by omega) (by omega)
                 rw [e9] at hb
                 exact hb)
              | (have e9 := zfB_f (c := (fmc V nk si)) (l := (fml V nk)) (n := i) (Or.inr ⟨fun q => c_134 (congrArg nI q), (if_neg c_150).trans (decide_eq_false (Int32.not_lt.mpr c_182))⟩)
                 have hb := ih_19 (i + 1) (by omega) (by omega)
                 rw [e9] at hb
                 exact hb)
              | (have e9 := zfB_f (c := (fmc V nk si)) (l := (fml V nk)) (n := i) (Or.inr ⟨fun q => c_134 (congrArg nI q), (if_pos c_150).trans (decide_eq_false (Int32.not_lt.mpr c_182))⟩)
                 have hb := ih_19 (i + 1) (by omega) (by omega)
                 rw [e9] at hb
                 exact hb)
              | (have e9 := zfB_t (c := (fmc V nk si)) (l := (fml V nk)) (n := i) (fw_t c_36 c_48 c_127) (Or.inl (hz9.mp c_134))
                 have hb := ih_19 (i + 1) (by omega) (by omega)
                 rw [e9] at hb
                 exact hb)
              | (have e9 := zfB_t (c := (fmc V nk si)) (l := (fml V nk)) (n := i) (fw_t c_36 c_48 c_127) (Or.inr ((if_neg c_150).trans (decide_eq_true (Int32.not_le.mp c_182))))
                 have hb := ih_19 (i + 1) (by omega) (by omega)
                 rw [e9] at hb
                 exact hb)
              | (have e9 := zfB_t (c := (fmc V nk si)) (l := (fml V nk)) (n := i) (fw_t c_36 c_48 c_127) (Or.inr ((if_pos c_150).trans (decide_eq_true (Int32.not_le.mp c_182))))
                 have hb := ih_19 (i + 1) (by omega) (by omega)
                 rw [e9] at hb
                 exact hb)
  exact key_19 257 0 (by omega) (by omega)
set_option maxHeartbeats 4000000 in
set_option maxRecDepth 100000 in
theorem m_Mo_fewestE {g0 : State} {d : zD} {l : Launch} {a0 : Array Value} (hs0 : zS0 d a0 g0) (hst : l.stackTraces = false) {G : zG} {B : Nat → Nat} {V : Nat → Nat → Int32} {nk ns ne ec : Nat} (hM : zM d B V nk ns ne ec G) (x : Int32) {iv : Nat → Nat} (hok : mOk V nk ns iv) : zMet g0 d l y_Mo_fewest c_Mo_fewest 2 ((Option.some Jvm.ClassFile.FieldType.int)) 13 0 0 [.ref (B 0), .int x] (G) (mAq d B nk ns ne ec V G (rFw nk ns x)) (zNo) := by
  have hnk : nk ≤ 8 := hM.2.1
  have hns : ns ≤ 6 := hM.2.2.1
  have hne : ne ≤ 64 := hM.2.2.2.1
  have hp2 : 2 ^ nk ≤ 256 := Nat.pow_le_pow_right (n := 2) (by decide) hnk
  refine z_entry hs0 hst (by decide) (Nat.le_of_ble_eq_true rfl) (fun p e s m args below meth c => ?_)
  refine z_aload_n 0 d_Mo_fewest_0 rfl rfl ?_
  refine z_iconst (v := 0) d_Mo_fewest_1 (by decide) ?_
  refine z_put zc_Mo 0 (by decide) qF_Mo_36 hM.mo rfl rfl rfl (Nat.le_of_ble_eq_true rfl) d_Mo_fewest_2 ?_
  obtain ⟨V1, hM1, hK1, hF1, hT1⟩ := hM.putT 0
  refine z_aload_n 0 d_Mo_fewest_5 rfl rfl ?_
  refine z_iload_n 1 d_Mo_fewest_6 rfl rfl ?_
  refine z_callV0 (m_Mo_isSecret hs0 hst hM1 x) ym_Mo_isSecret qM_Mo_147 qI_Mo_isSecret qV_Mo_Mo_isSecret zc_Mo hM1.mo d_Mo_fewest_7 rfl (Nat.le_of_ble_eq_true rfl) ⟨Nat.zero_le _, Nat.zero_le _⟩ ⟨Nat.le_of_ble_eq_true rfl, Nat.le_of_ble_eq_true rfl⟩ ?_
  refine z_if_ne 19 d_Mo_fewest_10 (by decide) (fun c_10 => ?_) (fun c_10 => ?_)
  · skip
    obtain ⟨si, hsi, rfl⟩ := zin_n ((zb_n0 _).mp c_10) (by omega)
    refine z_aload_n 0 d_Mo_fewest_19 rfl rfl ?_
    refine z_iload_n 1 d_Mo_fewest_20 rfl rfl ?_
    refine z_callV0 ((m_Mo_fewestNowE hs0 hst hM1 hsi (hK1.ok hok).2.2)) ym_Mo_fewestNow qM_Mo_256 qI_Mo_fewestNow qV_Mo_Mo_fewestNow zc_Mo hM1.mo d_Mo_fewest_21 rfl (Nat.le_of_ble_eq_true rfl) ⟨Nat.zero_le _, Nat.zero_le _⟩ ⟨Nat.le_of_ble_eq_true rfl, Nat.le_of_ble_eq_true rfl⟩ ?_
    exact z_iret rfl (⟨_, V1, rfl, Or.inr ⟨si, hsi, rfl, hT1, rfl⟩, hM1, hK1, hF1⟩) (by first | decide | omega) (by first | decide | omega) d_Mo_fewest_24
  · skip
    refine z_aload_n 0 d_Mo_fewest_13 rfl rfl ?_
    refine z_iconst (v := 1) d_Mo_fewest_14 (by decide) ?_
    refine z_callV0 (m_Mo_no hs0 hst hM1.mo 1) ym_Mo_no qM_Mo_119 qI_Mo_no qV_Mo_Mo_no zc_Mo hM1.mo d_Mo_fewest_15 rfl (Nat.le_of_ble_eq_true rfl) ⟨Nat.zero_le _, Nat.zero_le _⟩ ⟨Nat.le_of_ble_eq_true rfl, Nat.le_of_ble_eq_true rfl⟩ ?_
    obtain ⟨V9, hM9, hK9, hF9, hT9⟩ := hM1.putT 1
    exact z_iret rfl (⟨_, V9, rfl, Or.inl ⟨(zb_0 _).mp c_10, hT9⟩, hM9, hK1.tr hK9, hF1.tr hF9⟩) (by first | decide | omega) (by first | decide | omega) d_Mo_fewest_18
