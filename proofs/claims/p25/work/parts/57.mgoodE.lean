set_option maxHeartbeats 4000000 in
set_option maxRecDepth 100000 in
theorem m_Mo_isGoodE {g0 : State} {d : zD} {l : Launch} {a0 : Array Value} (hs0 : zS0 d a0 g0) (hst : l.stackTraces = false) {G : zG} {B : Nat → Nat} {V : Nat → Nat → Int32} {nk ns ne ec : Nat} (hM : zM d B V nk ns ne ec G) {si : Nat} (hsi : si < ns) {g : Nat} (hg : g < 2 ^ nk) (hsm : zSm (mgv V si) g) {iv : Nat → Nat} (hiv : zIv (V 7) iv) {t : Nat} (ht : V (200 + si) 0 = nI t) (ht4 : t ≤ 4) : zMet g0 d l y_Mo_isGood c_Mo_isGood 4 ((Option.some Jvm.ClassFile.FieldType.boolean)) 15 0 0 [.ref (B 0), .ref (B (200 + si)), .int (nI g)] (G) (mTs d B nk ns ne ec V G (fun r => r = some (.int (zb (rgd (V 7) (mgv V si) t g))))) (zNo) := by
  have hnk : nk ≤ 8 := hM.2.1
  have hns : ns ≤ 6 := hM.2.2.1
  have hne : ne ≤ 64 := hM.2.2.2.1
  have hp2 : 2 ^ nk ≤ 256 := Nat.pow_le_pow_right (n := 2) (by decide) hnk
  have hg8 : g < 256 := by omega
  have hb1 : (rmb (V 7) (mgv V si) t g g).1 < 2 ^ nk := by have := (rmb_in (inv := V 7) (h := mgv V si) (t := t) (g := g) g).1; omega
  have hsb : zSm (mgv V si) (rmb (V 7) (mgv V si) t g g).1 := hsm.sub (fun k hk h1 => rmb_sub hg8 hg8 hk h1)
  refine z_entry hs0 hst (by decide) (Nat.le_of_ble_eq_true rfl) (fun p e s m args below meth c => ?_)
  refine z_iload_n 2 d_Mo_isGood_0 rfl rfl ?_
  refine z_callS0 ((m_Mo_size hs0 hst (nn := g) (by omega))) ym_Mo_size qM_Mo_66 qS_Mo_size d_Mo_isGood_1 rfl (Nat.le_of_ble_eq_true rfl) ⟨Nat.zero_le _, Nat.zero_le _⟩ ⟨Nat.le_of_ble_eq_true rfl, Nat.le_of_ble_eq_true rfl⟩ ?_
  refine z_istore_n (L' := [(3, _), (0, _), (1, _), (2, _)]) d_Mo_isGood_4 rfl (by decide) rfl ?_
  refine z_iload_n 0 d_Mo_isGood_5 rfl rfl ?_
  refine z_aload_n 2 d_Mo_isGood_6 rfl rfl ?_
  refine z_get zc_MS 0 (by decide) qF_Mo_69 (hM.se hsi).1 rfl d_Mo_isGood_7 ?_
  refine z_icmp_ge 15 d_Mo_isGood_10 (by decide) (fun c_10 => ?_) (fun c_10 => ?_)
  · skip
    refine z_iload_n 0 d_Mo_isGood_15 rfl rfl ?_
    refine z_aload_n 1 d_Mo_isGood_16 rfl rfl ?_
    refine z_aload_n 2 d_Mo_isGood_17 rfl rfl ?_
    refine z_iload_n 3 d_Mo_isGood_18 rfl rfl ?_
    refine z_aload_n 1 d_Mo_isGood_19 rfl rfl ?_
    refine z_aload_n 2 d_Mo_isGood_20 rfl rfl ?_
    refine z_iload_n 3 d_Mo_isGood_21 rfl rfl ?_
    refine z_callVp0 ((m_Mo_bestE hs0 hst hM hsi hg hsm hiv ht ht4)) ym_Mo_best qM_Mo_91 qI_Mo_best qV_Mo_Mo_best zc_Mo hM.mo d_Mo_isGood_22 rfl (Nat.le_of_ble_eq_true rfl) ⟨Nat.zero_le _, Nat.zero_le _⟩ ⟨Nat.le_of_ble_eq_true rfl, Nat.le_of_ble_eq_true rfl⟩ (fun r_22 G_22 hp_22 => ?_)
    obtain ⟨hr_22, V1, hM1, hK1, hF1⟩ := hp_22
    obtain rfl : r_22 = _ := hr_22
    refine z_callVp0 ((m_Mo_agreeingE hs0 hst hM1 hsi hg hb1 (by rw [hK1.mg]; exact hsb) (by rw [hK1.r (r := 7) (by decide) (by decide)]; exact hiv))) ym_Mo_agreeing qM_Mo_72 qI_Mo_agreeing qV_Mo_Mo_agreeing zc_Mo hM1.mo d_Mo_isGood_25 rfl (Nat.le_of_ble_eq_true rfl) ⟨Nat.zero_le _, Nat.zero_le _⟩ ⟨Nat.le_of_ble_eq_true rfl, Nat.le_of_ble_eq_true rfl⟩ (fun r_25 G_25 hp_25 => ?_)
    obtain ⟨hr_25, V2, hM2, hK2, hF2⟩ := hp_25
    rw [hK1.mg, hK1.r (r := 7) (by decide) (by decide)] at hr_25
    obtain rfl : r_25 = _ := hr_25
    refine z_callS0 ((m_Mo_size hs0 hst (nn := rag (V 7) (mgv V si) g (rmb (V 7) (mgv V si) t g g).1) (by have := rag_lt (inv := V 7) (h := mgv V si) (g := g) (q := (rmb (V 7) (mgv V si) t g g).1); omega))) ym_Mo_size qM_Mo_66 qS_Mo_size d_Mo_isGood_28 rfl (Nat.le_of_ble_eq_true rfl) ⟨Nat.zero_le _, Nat.zero_le _⟩ ⟨Nat.le_of_ble_eq_true rfl, Nat.le_of_ble_eq_true rfl⟩ ?_
    refine z_isub d_Mo_isGood_31 ?_
    refine z_iload_n 0 d_Mo_isGood_32 rfl rfl ?_
    refine z_aload_n 2 d_Mo_isGood_33 rfl rfl ?_
    refine z_get zc_MS 0 (by decide) qF_Mo_69 (hM2.se hsi).1 rfl d_Mo_isGood_34 ?_
    refine z_isub d_Mo_isGood_37 ?_
    refine z_iconst (v := 2) d_Mo_isGood_38 (by decide) ?_
    refine z_idiv d_Mo_isGood_39 (by decide) ?_
    refine z_icmp_gt 47 d_Mo_isGood_40 (by decide) (fun c_40 => ?_) (fun c_40 => ?_)
    · skip
      refine z_iconst (v := 0) d_Mo_isGood_47 (by decide) ?_
      exact z_zret rfl (by first | rfl | exact zb_nar _) (⟨by first | (rw [show rgd (V 7) (mgv V si) t g = false from by unfold rgd; rw [← ht, decide_eq_false (p := nI (zpop 9 g) - nI (zpop 9 (rag (V 7) (mgv V si) g (rmb (V 7) (mgv V si) t g g).1)) ≤ (nI (zpop 9 g) - V (200 + si) 0) / 2) (Int32.not_le.mpr (by have e9 := congrFun (hK1.r (r := 200 + si) (by omega) (by omega)) 0; have e8 := congrFun (hK2.r (r := 200 + si) (by omega) (by omega)) 0; rw [← e9, ← e8]; exact c_40)), Bool.and_false]]; rfl) | (rw [show rgd (V 7) (mgv V si) t g = true from by unfold rgd; rw [← ht, decide_eq_true (p := V (200 + si) 0 ≤ nI (zpop 9 g)) c_10, decide_eq_true (p := nI (zpop 9 g) - nI (zpop 9 (rag (V 7) (mgv V si) g (rmb (V 7) (mgv V si) t g g).1)) ≤ (nI (zpop 9 g) - V (200 + si) 0) / 2) (Int32.not_lt.mp (by have e9 := congrFun (hK1.r (r := 200 + si) (by omega) (by omega)) 0; have e8 := congrFun (hK2.r (r := 200 + si) (by omega) (by omega)) 0; rw [← e9, ← e8]; exact c_40))]; rfl]; rfl), V2, hM2, hK1.tr hK2, hF1.tr hF2⟩) (by first | decide | omega) (by first | decide | omega) d_Mo_isGood_48
    · skip
      refine z_iconst (v := 1) d_Mo_isGood_43 (by decide) ?_
      refine z_goto 48 d_Mo_isGood_44 (by decide) ?_
      exact z_zret rfl (by first | rfl | exact zb_nar _) (⟨by first | (rw [show rgd (V 7) (mgv V si) t g = false from by unfold rgd; rw [← ht, decide_eq_false (p := nI (zpop 9 g) - nI (zpop 9 (rag (V 7) (mgv V si) g (rmb (V 7) (mgv V si) t g g).1)) ≤ (nI (zpop 9 g) - V (200 + si) 0) / 2) (Int32.not_le.mpr (by have e9 := congrFun (hK1.r (r := 200 + si) (by omega) (by omega)) 0; have e8 := congrFun (hK2.r (r := 200 + si) (by omega) (by omega)) 0; rw [← e9, ← e8]; exact c_40)), Bool.and_false]]; rfl) | (rw [show rgd (V 7) (mgv V si) t g = true from by unfold rgd; rw [← ht, decide_eq_true (p := V (200 + si) 0 ≤ nI (zpop 9 g)) c_10, decide_eq_true (p := nI (zpop 9 g) - nI (zpop 9 (rag (V 7) (mgv V si) g (rmb (V 7) (mgv V si) t g g).1)) ≤ (nI (zpop 9 g) - V (200 + si) 0) / 2) (Int32.not_lt.mp (by have e9 := congrFun (hK1.r (r := 200 + si) (by omega) (by omega)) 0; have e8 := congrFun (hK2.r (r := 200 + si) (by omega) (by omega)) 0; rw [← e9, ← e8]; exact c_40))]; rfl]; rfl), V2, hM2, hK1.tr hK2, hF1.tr hF2⟩) (by first | decide | omega) (by first | decide | omega) d_Mo_isGood_48
  · skip
    refine z_iconst (v := 0) d_Mo_isGood_13 (by decide) ?_
    exact z_zret rfl (by first | rfl | exact zb_nar _) (⟨by rw [show rgd (V 7) (mgv V si) t g = false from by unfold rgd; rw [decide_eq_false (p := nI t ≤ nI (zpop 9 g)) (by rw [← ht]; exact c_10), Bool.false_and]]; rfl, V, hM, zKp.rf, zFr.rf⟩) (by first | decide | omega) (by first | decide | omega) d_Mo_isGood_14
set_option maxHeartbeats 4000000 in
set_option maxRecDepth 100000 in
theorem m_Mo_foundE {g0 : State} {d : zD} {l : Launch} {a0 : Array Value} (hs0 : zS0 d a0 g0) (hst : l.stackTraces = false) {G : zG} {B : Nat → Nat} {V : Nat → Nat → Int32} {nk ns ne ec : Nat} (hM : zM d B V nk ns ne ec G) {si : Nat} (hsi : si < ns) {g : Nat} (hg : g < 2 ^ nk) (hsm : zSm (mgv V si) g) {iv : Nat → Nat} (hiv : zIv (V 7) iv) {t : Nat} (ht : V (200 + si) 0 = nI t) (ht4 : t ≤ 4) : zMet g0 d l y_Mo_found c_Mo_found 3 ((Option.some Jvm.ClassFile.FieldType.int)) 15 0 0 [.ref (B 0), .ref (B (200 + si)), .int (nI g)] (G) (mTs d B nk ns ne ec V G (fun r => r = some (.int (zth (V 7) (gvs (mgv V si)) (nI (2 * (rmb (V 7) (mgv V si) t g g).1)) (nI 0))))) (zNo) := by
  have hnk : nk ≤ 8 := hM.2.1
  have hns : ns ≤ 6 := hM.2.2.1
  have hne : ne ≤ 64 := hM.2.2.2.1
  have hp2 : 2 ^ nk ≤ 256 := Nat.pow_le_pow_right (n := 2) (by decide) hnk
  have hg8 : g < 256 := by omega
  have hb1 : (rmb (V 7) (mgv V si) t g g).1 < 2 ^ nk := by have := (rmb_in (inv := V 7) (h := mgv V si) (t := t) (g := g) g).1; omega
  have hsb : zSm (mgv V si) (rmb (V 7) (mgv V si) t g g).1 := hsm.sub (fun k hk h1 => rmb_sub hg8 hg8 hk h1)
  refine z_entry hs0 hst (by decide) (Nat.le_of_ble_eq_true rfl) (fun p e s m args below meth c => ?_)
  refine z_aload_n 0 d_Mo_found_0 rfl rfl ?_
  refine z_aload_n 1 d_Mo_found_1 rfl rfl ?_
  refine z_aload_n 0 d_Mo_found_2 rfl rfl ?_
  refine z_aload_n 1 d_Mo_found_3 rfl rfl ?_
  refine z_iload_n 2 d_Mo_found_4 rfl rfl ?_
  refine z_callVp0 ((m_Mo_bestE hs0 hst hM hsi hg hsm hiv ht ht4)) ym_Mo_best qM_Mo_91 qI_Mo_best qV_Mo_Mo_best zc_Mo hM.mo d_Mo_found_5 rfl (Nat.le_of_ble_eq_true rfl) ⟨Nat.zero_le _, Nat.zero_le _⟩ ⟨Nat.le_of_ble_eq_true rfl, Nat.le_of_ble_eq_true rfl⟩ (fun r_5 G_5 hp_5 => ?_)
  obtain ⟨hr_5, V1, hM1, hK1, hF1⟩ := hp_5
  obtain rfl : r_5 = _ := hr_5
  refine z_iconst (v := (nI 0)) d_Mo_found_8 (by decide) ?_
  refine z_callVp0 ((m_Mo_alongE hs0 hst hM1 hsi hb1 (x := 0) (by decide) (by rw [hK1.mg]; exact hsb) (by rw [hK1.r (r := 7) (by decide) (by decide)]; exact hiv))) ym_Mo_along qM_Mo_88 qI_Mo_along qV_Mo_Mo_along zc_Mo hM1.mo d_Mo_found_9 rfl (Nat.le_of_ble_eq_true rfl) ⟨Nat.zero_le _, Nat.zero_le _⟩ ⟨Nat.le_of_ble_eq_true rfl, Nat.le_of_ble_eq_true rfl⟩ (fun r_9 G_9 hp_9 => ?_)
  obtain ⟨hr_9, V2, hM2, hK2, hF2⟩ := hp_9
  rw [hK1.mg, hK1.r (r := 7) (by decide) (by decide)] at hr_9
  obtain rfl : r_9 = _ := hr_9
  exact z_iret rfl (⟨rfl, V2, hM2, hK1.tr hK2, hF1.tr hF2⟩) (by first | decide | omega) (by first | decide | omega) d_Mo_found_12
set_option maxHeartbeats 4000000 in
set_option maxRecDepth 100000 in
theorem m_Mo_liarsE {g0 : State} {d : zD} {l : Launch} {a0 : Array Value} (hs0 : zS0 d a0 g0) (hst : l.stackTraces = false) {G : zG} {B : Nat → Nat} {V : Nat → Nat → Int32} {nk ns ne ec : Nat} (hM : zM d B V nk ns ne ec G) {si : Nat} (hsi : si < ns) {g : Nat} (hg : g < 2 ^ nk) (hsm : zSm (mgv V si) g) {iv : Nat → Nat} (hiv : zIv (V 7) iv) {t : Nat} (ht : V (200 + si) 0 = nI t) (ht4 : t ≤ 4) : zMet g0 d l y_Mo_liars c_Mo_liars 3 ((Option.some Jvm.ClassFile.FieldType.int)) 15 0 0 [.ref (B 0), .ref (B (200 + si)), .int (nI g)] (G) (mTs d B nk ns ne ec V G (fun r => r = some (.int (nI g &&& (nI (rag (V 7) (mgv V si) g (rmb (V 7) (mgv V si) t g g).1) ^^^ (-1)))))) (zNo) := by
  have hnk : nk ≤ 8 := hM.2.1
  have hns : ns ≤ 6 := hM.2.2.1
  have hne : ne ≤ 64 := hM.2.2.2.1
  have hp2 : 2 ^ nk ≤ 256 := Nat.pow_le_pow_right (n := 2) (by decide) hnk
  have hg8 : g < 256 := by omega
  have hb1 : (rmb (V 7) (mgv V si) t g g).1 < 2 ^ nk := by have := (rmb_in (inv := V 7) (h := mgv V si) (t := t) (g := g) g).1; omega
  have hsb : zSm (mgv V si) (rmb (V 7) (mgv V si) t g g).1 := hsm.sub (fun k hk h1 => rmb_sub hg8 hg8 hk h1)
  refine z_entry hs0 hst (by decide) (Nat.le_of_ble_eq_true rfl) (fun p e s m args below meth c => ?_)
  refine z_iload_n 2 d_Mo_liars_0 rfl rfl ?_
  refine z_aload_n 0 d_Mo_liars_1 rfl rfl ?_
  refine z_aload_n 1 d_Mo_liars_2 rfl rfl ?_
  refine z_iload_n 2 d_Mo_liars_3 rfl rfl ?_
  refine z_aload_n 0 d_Mo_liars_4 rfl rfl ?_
  refine z_aload_n 1 d_Mo_liars_5 rfl rfl ?_
  refine z_iload_n 2 d_Mo_liars_6 rfl rfl ?_
  refine z_callVp0 ((m_Mo_bestE hs0 hst hM hsi hg hsm hiv ht ht4)) ym_Mo_best qM_Mo_91 qI_Mo_best qV_Mo_Mo_best zc_Mo hM.mo d_Mo_liars_7 rfl (Nat.le_of_ble_eq_true rfl) ⟨Nat.zero_le _, Nat.zero_le _⟩ ⟨Nat.le_of_ble_eq_true rfl, Nat.le_of_ble_eq_true rfl⟩ (fun r_7 G_7 hp_7 => ?_)
  obtain ⟨hr_7, V1, hM1, hK1, hF1⟩ := hp_7
  obtain rfl : r_7 = _ := hr_7
  refine z_callVp0 ((m_Mo_agreeingE hs0 hst hM1 hsi hg hb1 (by rw [hK1.mg]; exact hsb) (by rw [hK1.r (r := 7) (by decide) (by decide)]; exact hiv))) ym_Mo_agreeing qM_Mo_72 qI_Mo_agreeing qV_Mo_Mo_agreeing zc_Mo hM1.mo d_Mo_liars_10 rfl (Nat.le_of_ble_eq_true rfl) ⟨Nat.zero_le _, Nat.zero_le _⟩ ⟨Nat.le_of_ble_eq_true rfl, Nat.le_of_ble_eq_true rfl⟩ (fun r_10 G_10 hp_10 => ?_)
  obtain ⟨hr_10, V2, hM2, hK2, hF2⟩ := hp_10
  rw [hK1.mg, hK1.r (r := 7) (by decide) (by decide)] at hr_10
  obtain rfl : r_10 = _ := hr_10
  refine z_iconst (v := (-1)) d_Mo_liars_13 (by decide) ?_
  refine z_ixor d_Mo_liars_14 ?_
  refine z_iand d_Mo_liars_15 ?_
  exact z_iret rfl (⟨rfl, V2, hM2, hK1.tr hK2, hF1.tr hF2⟩) (by first | decide | omega) (by first | decide | omega) d_Mo_liars_16
set_option maxHeartbeats 4000000 in
set_option maxRecDepth 100000 in
theorem m_Mo_isLawfulE {g0 : State} {d : zD} {l : Launch} {a0 : Array Value} (hs0 : zS0 d a0 g0) (hst : l.stackTraces = false) {G : zG} {B : Nat → Nat} {V : Nat → Nat → Int32} {nk ns ne ec : Nat} (hM : zM d B V nk ns ne ec G) {si : Nat} (hsi : si < ns) (set : Int32) (hzo : ∀ k, k < nk → ∃ z, z < 4 ∧ V (100 + k) 0 = nI z) : zMet g0 d l y_Mo_isLawful c_Mo_isLawful 5 ((Option.some Jvm.ClassFile.FieldType.boolean)) 11 0 0 [.ref (B 0), .ref (B (200 + si)), .int set] (G) (zEq (some (.int (zb (zlwf (zbc (zzo set (fun k => V (100 + k) 0) nk)) (V (200 + si) 1) (V 0 2) (V (200 + si) 2) (V (200 + si) 4))))) G) (zNo) := by
  have hnk : nk ≤ 8 := hM.2.1
  have hns : ns ≤ 6 := hM.2.2.1
  have hne : ne ≤ 64 := hM.2.2.2.1
  have hp2 : 2 ^ nk ≤ 256 := Nat.pow_le_pow_right (n := 2) (by decide) hnk
  refine z_entry hs0 hst (by decide) (Nat.le_of_ble_eq_true rfl) (fun p e s m args below meth c => ?_)
  refine z_iconst (v := (nI 0)) d_Mo_isLawful_0 (by decide) ?_
  refine z_istore_n (L' := [(3, _), (0, _), (1, _), (2, _)]) d_Mo_isLawful_1 rfl (by decide) rfl ?_
  refine z_iconst (v := (nI 0)) d_Mo_isLawful_2 (by decide) ?_
  refine z_istore (L' := [(4, _), (3, _), (0, _), (1, _), (2, _)]) d_Mo_isLawful_3 (by decide) rfl ?_
  have key_5 : ∀ (n : Nat) (i : Nat), nk - i < n → (i ≤ nk) → Z g0 d y_Mo_isLawful c_Mo_isLawful 5 ((Option.some Jvm.ClassFile.FieldType.boolean)) [] p l e (zR 11 0 0) s m args below meth c (vx_MQ below (zQc g0 d (zEq (some (.int (zb (zlwf (zbc (zzo set (fun k => V (100 + k) 0) nk)) (V (200 + si) 1) (V 0 2) (V (200 + si) 2) (V (200 + si) 4))))) G)) (zXc g0 d (zNo)) args s 0 0 (zA g0)) 0 0 (G) [(4, .int (nI i)), (3, .int (zzo set (fun k => V (100 + k) 0) i)), (0, .ref (B 0)), (1, .ref (B (200 + si))), (2, .int set)] [] 5 := by
    intro n
    induction n with
    | zero => intro i h0; exact absurd h0 (Nat.not_lt_zero _)
    | succ n ih_5 =>
      intro i hm_5 hi
      refine z_iload 0 d_Mo_isLawful_5 rfl ?_
      refine z_aload_n 2 d_Mo_isLawful_7 rfl rfl ?_
      refine z_get zc_Mo 6 (by decide) qF_Mo_16 hM.mo rfl d_Mo_isLawful_8 ?_
      refine z_callF0 (m_AL_size hs0 hst hM.kl) ym_AL_size zF_AL_size qM_Mo_94 zc_AL hM.kl d_Mo_isLawful_11 rfl (Nat.le_of_ble_eq_true rfl) ⟨Nat.zero_le _, Nat.zero_le _⟩ ⟨Nat.le_of_ble_eq_true rfl, Nat.le_of_ble_eq_true rfl⟩ ?_
      refine z_icmp_ge 60 d_Mo_isLawful_16 (by decide) (fun c_16 => ?_) (fun c_16 => ?_)
      · skip
        obtain rfl : i = nk := by
          have := (nI_leI (a := nk) (b := i) (by omega) (by omega)).mp c_16
          omega
        obtain ⟨q9, hq9, eq9⟩ := zzo_lt (set := set) (zo := (fun k => V (100 + k) 0)) i hzo
        rw [eq9]
        have e9 : zbc (nI q9) = nI (zpop 9 q9) := zbc_512 q9 (by omega)
        refine z_iload_n 1 d_Mo_isLawful_60 rfl rfl ?_
        refine z_callS0 ((m_Mo_size hs0 hst (nn := q9) (by omega))) ym_Mo_size qM_Mo_66 qS_Mo_size d_Mo_isLawful_61 rfl (Nat.le_of_ble_eq_true rfl) ⟨Nat.zero_le _, Nat.zero_le _⟩ ⟨Nat.le_of_ble_eq_true rfl, Nat.le_of_ble_eq_true rfl⟩ ?_
        refine z_aload_n 3 d_Mo_isLawful_64 rfl rfl ?_
        refine z_get zc_MS 1 (by decide) qF_Mo_99 (hM.se hsi).1 rfl d_Mo_isLawful_65 ?_
        refine z_icmp_lt 93 d_Mo_isLawful_68 (by decide) (fun c_68 => ?_) (fun c_68 => ?_)
        · skip
          refine z_iconst (v := 0) d_Mo_isLawful_93 (by decide) ?_
          exact z_zret rfl (by first | rfl | exact zb_nar _) (⟨by rw [e9]; first | rw [zlwf_1 c_68] <;> rfl | rw [zlwf_2 c_79] <;> rfl | rw [zlwf_3 c_86] <;> rfl | rw [zlwf_t c_68 c_79 c_86] <;> rfl, rfl⟩) (by first | decide | omega) (by first | decide | omega) d_Mo_isLawful_94
        · skip
          refine z_aload_n 2 d_Mo_isLawful_71 rfl rfl ?_
          refine z_get zc_Mo 2 (by decide) qF_Mo_102 hM.mo rfl d_Mo_isLawful_72 ?_
          refine z_aload_n 3 d_Mo_isLawful_75 rfl rfl ?_
          refine z_get zc_MS 2 (by decide) qF_Mo_105 (hM.se hsi).1 rfl d_Mo_isLawful_76 ?_
          refine z_icmp_lt 93 d_Mo_isLawful_79 (by decide) (fun c_79 => ?_) (fun c_79 => ?_)
          · skip
            refine z_iconst (v := 0) d_Mo_isLawful_93 (by decide) ?_
            exact z_zret rfl (by first | rfl | exact zb_nar _) (⟨by rw [e9]; first | rw [zlwf_1 c_68] <;> rfl | rw [zlwf_2 c_79] <;> rfl | rw [zlwf_3 c_86] <;> rfl | rw [zlwf_t c_68 c_79 c_86] <;> rfl, rfl⟩) (by first | decide | omega) (by first | decide | omega) d_Mo_isLawful_94
          · skip
            refine z_aload_n 3 d_Mo_isLawful_82 rfl rfl ?_
            refine z_get zc_MS 4 (by decide) qF_Mo_108 (hM.se hsi).1 rfl d_Mo_isLawful_83 ?_
            refine z_if_ne 93 d_Mo_isLawful_86 (by decide) (fun c_86 => ?_) (fun c_86 => ?_)
            · skip
              refine z_iconst (v := 0) d_Mo_isLawful_93 (by decide) ?_
              exact z_zret rfl (by first | rfl | exact zb_nar _) (⟨by rw [e9]; first | rw [zlwf_1 c_68] <;> rfl | rw [zlwf_2 c_79] <;> rfl | rw [zlwf_3 c_86] <;> rfl | rw [zlwf_t c_68 c_79 c_86] <;> rfl, rfl⟩) (by first | decide | omega) (by first | decide | omega) d_Mo_isLawful_94
            · skip
              refine z_iconst (v := 1) d_Mo_isLawful_89 (by decide) ?_
              refine z_goto 94 d_Mo_isLawful_90 (by decide) ?_
              exact z_zret rfl (by first | rfl | exact zb_nar _) (⟨by rw [e9]; first | rw [zlwf_1 c_68] <;> rfl | rw [zlwf_2 c_79] <;> rfl | rw [zlwf_3 c_86] <;> rfl | rw [zlwf_t c_68 c_79 c_86] <;> rfl, rfl⟩) (by first | decide | omega) (by first | decide | omega) d_Mo_isLawful_94
      · skip
        have hi6 : i < nk := Nat.lt_of_not_le fun q => c_16 (nI_le q (by omega))
        refine z_iload_n 1 d_Mo_isLawful_19 rfl rfl ?_
        refine z_iload_n 4 d_Mo_isLawful_20 rfl rfl ?_
        refine z_iload 0 d_Mo_isLawful_21 rfl ?_
        refine z_callS0 (m_Mo_has hs0 hst set (nI i)) ym_Mo_has qM_Mo_76 qS_Mo_has d_Mo_isLawful_23 rfl (Nat.le_of_ble_eq_true rfl) ⟨Nat.zero_le _, Nat.zero_le _⟩ ⟨Nat.le_of_ble_eq_true rfl, Nat.le_of_ble_eq_true rfl⟩ ?_
        refine z_if_eq 51 d_Mo_isLawful_26 (by decide) (fun c_26 => ?_) (fun c_26 => ?_)
        · skip
          refine z_iconst (v := 0) d_Mo_isLawful_51 (by decide) ?_
          refine z_ior d_Mo_isLawful_52 ?_
          first
            | refine z_topv (zzo_t (zo := (fun k => V (100 + k) 0)) (show zbt set i = true from (zb_n0 _).mp c_26)) ?_
            | refine z_topv ((Int32.or_zero).trans (zzo_f (zo := (fun k => V (100 + k) 0)) (show zbt set i = false from (zb_0 _).mp c_26))) ?_
          refine z_istore_n (L' := [(3, _), (4, _), (0, _), (1, _), (2, _)]) d_Mo_isLawful_53 rfl (by decide) rfl ?_
          refine z_iinc (v := nI (i + 1)) (L' := [(4, _), (3, _), (0, _), (1, _), (2, _)]) 1 d_Mo_isLawful_54 rfl (nI_1 i) (by decide) rfl ?_
          refine z_goto 5 d_Mo_isLawful_57 (by decide) ?_
          exact ih_5 (i + 1) (by omega) (by omega)
        · skip
          refine z_iconst (v := 1) d_Mo_isLawful_29 (by decide) ?_
          refine z_aload_n 2 d_Mo_isLawful_30 rfl rfl ?_
          refine z_get zc_Mo 6 (by decide) qF_Mo_16 hM.mo rfl d_Mo_isLawful_31 ?_
          refine z_iload 0 d_Mo_isLawful_34 rfl ?_
          refine z_callF0 (m_AL_get hs0 hst (hM.kA hi6) hi6 (if_pos hi6)) ym_AL_get zF_AL_get qM_Mo_51 zc_AL (hM.kA hi6).1 d_Mo_isLawful_36 rfl (Nat.le_of_ble_eq_true rfl) ⟨Nat.zero_le _, Nat.zero_le _⟩ ⟨Nat.le_of_ble_eq_true rfl, Nat.le_of_ble_eq_true rfl⟩ ?_
          refine z_castS zc_MK qK_Mo_57 (hM.ke hi6) d_Mo_isLawful_41 ?_
          refine z_get zc_MK 0 (by decide) qF_Mo_96 (hM.ke hi6) rfl d_Mo_isLawful_44 ?_
          refine z_ishl d_Mo_isLawful_47 ?_
          refine z_goto 52 d_Mo_isLawful_48 (by decide) ?_
          refine z_ior d_Mo_isLawful_52 ?_
          first
            | refine z_topv (zzo_t (zo := (fun k => V (100 + k) 0)) (show zbt set i = true from (zb_n0 _).mp c_26)) ?_
            | refine z_topv ((Int32.or_zero).trans (zzo_f (zo := (fun k => V (100 + k) 0)) (show zbt set i = false from (zb_0 _).mp c_26))) ?_
          refine z_istore_n (L' := [(3, _), (4, _), (0, _), (1, _), (2, _)]) d_Mo_isLawful_53 rfl (by decide) rfl ?_
          refine z_iinc (v := nI (i + 1)) (L' := [(4, _), (3, _), (0, _), (1, _), (2, _)]) 1 d_Mo_isLawful_54 rfl (nI_1 i) (by decide) rfl ?_
          refine z_goto 5 d_Mo_isLawful_57 (by decide) ?_
          exact ih_5 (i + 1) (by omega) (by omega)
  exact key_5 (nk + 1) 0 (by omega) (by omega)

/-- an entry is written, or there are 64 -/
def mEn (V V' : Nat → Nat → Int32) (ne ne' : Nat) (kd ab : Int32) : Prop := (ne = 64 ∧ ne' = 64 ∧ V' = V) ∨ (ne < 64 ∧ ne' = ne + 1 ∧ V' = rset (rset V (500 + ne) (upd (upd (upd (upd (fun _ => 0) 0 kd) 1 ab) 2 (V 0 2)) 3 (zr9 (kd * 1009 + 31 * ab + 7 * V 0 2 + nI ne)))) 5 (fun _ => V 5 0 + 1))
def mTwE (d : zD) (B : Nat → Nat) (nk ns ne : Nat) (V : Nat → Nat → Int32) (G : zG) (kd ab : Int32) : Option Value → zG → Prop := fun r G1 => r = none ∧ ∃ B' V' ne' ec', zM d B' V' nk ns ne' ec' G1 ∧ mEn V V' ne ne' kd ab ∧ mNw B B' nk ns ne nk ns ne' G ∧ mFr B nk ns ne G G1 ∧ ∀ q, q < 500 → q ≠ 6 → B' q = B q

theorem d_Mo_write_0 : decode c_Mo_write 0 = .ok (.aload_n 0, 1) := by decide +kernel
theorem d_Mo_write_1 : decode c_Mo_write 1 = .ok (.getfield 23, 3) := by decide +kernel
theorem d_Mo_write_4 : decode c_Mo_write 4 = .ok (.invokeinterface 94 1, 5) := by decide +kernel
theorem d_Mo_write_9 : decode c_Mo_write 9 = .ok (.bipush 64, 2) := by decide +kernel
theorem d_Mo_write_11 : decode c_Mo_write 11 = .ok (.if_icmp .ne 4, 3) := by decide +kernel
theorem d_Mo_write_14 : decode c_Mo_write 14 = .ok (.return_, 1) := by decide +kernel
theorem d_Mo_write_15 : decode c_Mo_write 15 = .ok (.aload_n 0, 1) := by decide +kernel
theorem d_Mo_write_16 : decode c_Mo_write 16 = .ok (.getfield 23, 3) := by decide +kernel
theorem d_Mo_write_19 : decode c_Mo_write 19 = .ok (.iconst 4, 1) := by decide +kernel
theorem d_Mo_write_20 : decode c_Mo_write 20 = .ok (.newarray .int, 2) := by decide +kernel
theorem d_Mo_write_22 : decode c_Mo_write 22 = .ok (.dup, 1) := by decide +kernel
theorem d_Mo_write_23 : decode c_Mo_write 23 = .ok (.iconst 0, 1) := by decide +kernel
theorem d_Mo_write_24 : decode c_Mo_write 24 = .ok (.iload_n 1, 1) := by decide +kernel
theorem d_Mo_write_25 : decode c_Mo_write 25 = .ok (.iastore, 1) := by decide +kernel
theorem d_Mo_write_26 : decode c_Mo_write 26 = .ok (.dup, 1) := by decide +kernel
theorem d_Mo_write_27 : decode c_Mo_write 27 = .ok (.iconst 1, 1) := by decide +kernel
theorem d_Mo_write_28 : decode c_Mo_write 28 = .ok (.iload_n 2, 1) := by decide +kernel
theorem d_Mo_write_29 : decode c_Mo_write 29 = .ok (.iastore, 1) := by decide +kernel
theorem d_Mo_write_30 : decode c_Mo_write 30 = .ok (.dup, 1) := by decide +kernel
theorem d_Mo_write_31 : decode c_Mo_write 31 = .ok (.iconst 2, 1) := by decide +kernel
theorem d_Mo_write_32 : decode c_Mo_write 32 = .ok (.aload_n 0, 1) := by decide +kernel
theorem d_Mo_write_33 : decode c_Mo_write 33 = .ok (.getfield 102, 3) := by decide +kernel
theorem d_Mo_write_36 : decode c_Mo_write 36 = .ok (.iastore, 1) := by decide +kernel
theorem d_Mo_write_37 : decode c_Mo_write 37 = .ok (.dup, 1) := by decide +kernel
theorem d_Mo_write_38 : decode c_Mo_write 38 = .ok (.iconst 3, 1) := by decide +kernel
theorem d_Mo_write_39 : decode c_Mo_write 39 = .ok (.iload_n 1, 1) := by decide +kernel
theorem d_Mo_write_40 : decode c_Mo_write 40 = .ok (.sipush 1009, 3) := by decide +kernel
theorem d_Mo_write_43 : decode c_Mo_write 43 = .ok (.imul, 1) := by decide +kernel
theorem d_Mo_write_44 : decode c_Mo_write 44 = .ok (.bipush 31, 2) := by decide +kernel
theorem d_Mo_write_46 : decode c_Mo_write 46 = .ok (.iload_n 2, 1) := by decide +kernel
theorem d_Mo_write_47 : decode c_Mo_write 47 = .ok (.imul, 1) := by decide +kernel
theorem d_Mo_write_48 : decode c_Mo_write 48 = .ok (.iadd, 1) := by decide +kernel
theorem d_Mo_write_49 : decode c_Mo_write 49 = .ok (.bipush 7, 2) := by decide +kernel
theorem d_Mo_write_51 : decode c_Mo_write 51 = .ok (.aload_n 0, 1) := by decide +kernel
theorem d_Mo_write_52 : decode c_Mo_write 52 = .ok (.getfield 102, 3) := by decide +kernel
theorem d_Mo_write_55 : decode c_Mo_write 55 = .ok (.imul, 1) := by decide +kernel
theorem d_Mo_write_56 : decode c_Mo_write 56 = .ok (.iadd, 1) := by decide +kernel
theorem d_Mo_write_57 : decode c_Mo_write 57 = .ok (.aload_n 0, 1) := by decide +kernel
theorem d_Mo_write_58 : decode c_Mo_write 58 = .ok (.getfield 23, 3) := by decide +kernel
theorem d_Mo_write_61 : decode c_Mo_write 61 = .ok (.invokeinterface 94 1, 5) := by decide +kernel
theorem d_Mo_write_66 : decode c_Mo_write 66 = .ok (.iadd, 1) := by decide +kernel
theorem d_Mo_write_67 : decode c_Mo_write 67 = .ok (.sipush 9973, 3) := by decide +kernel
theorem d_Mo_write_70 : decode c_Mo_write 70 = .ok (.irem, 1) := by decide +kernel
theorem d_Mo_write_71 : decode c_Mo_write 71 = .ok (.iastore, 1) := by decide +kernel
theorem d_Mo_write_72 : decode c_Mo_write 72 = .ok (.invokeinterface 111 2, 5) := by decide +kernel
theorem d_Mo_write_77 : decode c_Mo_write 77 = .ok (.pop, 1) := by decide +kernel
theorem d_Mo_write_78 : decode c_Mo_write 78 = .ok (.return_, 1) := by decide +kernel
set_option maxHeartbeats 4000000 in
set_option maxRecDepth 100000 in
theorem m_Mo_writeE {g0 : State} {d : zD} {l : Launch} {a0 : Array Value} (hs0 : zS0 d a0 g0) (hst : l.stackTraces = false) {G : zG} {B : Nat → Nat} {V : Nat → Nat → Int32} {nk ns ne ec : Nat} (hM : zM d B V nk ns ne ec G) (kd ab : Int32) : zMet g0 d l y_Mo_write c_Mo_write 3 ((Option.none : Option Jvm.ClassFile.FieldType)) 9 2 84 [.ref (B 0), .int kd, .int ab] (G) (mTwE d B nk ns ne V G kd ab) (zNo) := by
  have hnk : nk ≤ 8 := hM.2.1
  have hns : ns ≤ 6 := hM.2.2.1
  have hne : ne ≤ 64 := hM.2.2.2.1
  have hp2 : 2 ^ nk ≤ 256 := Nat.pow_le_pow_right (n := 2) (by decide) hnk
  refine z_entry hs0 hst (by decide) (Nat.le_of_ble_eq_true rfl) (fun p e s m args below meth c => ?_)
  refine z_aload_n 0 d_Mo_write_0 rfl rfl ?_
  refine z_get zc_Mo 8 (by decide) qF_Mo_23 hM.mo rfl d_Mo_write_1 ?_
  refine z_callF0 (m_AL_size hs0 hst hM.el) ym_AL_size zF_AL_size qM_Mo_94 zc_AL hM.el d_Mo_write_4 rfl (Nat.le_of_ble_eq_true rfl) ⟨by decide, by decide⟩ ⟨Nat.le_of_ble_eq_true rfl, Nat.le_of_ble_eq_true rfl⟩ ?_
  refine z_bipush (v := (nI 64)) d_Mo_write_9 (by decide) ?_
  refine z_icmp_ne 15 d_Mo_write_11 (by decide) (fun c_11 => ?_) (fun c_11 => ?_)
  · skip
    have h64 : ne < 64 := Nat.lt_of_le_of_ne hne fun e => c_11 (by rw [e])
    refine z_aload_n 0 d_Mo_write_15 rfl rfl ?_
    refine z_get zc_Mo 8 (by decide) qF_Mo_23 hM.mo rfl d_Mo_write_16 ?_
    refine z_iconst (v := 4) d_Mo_write_19 (by decide) ?_
    refine z_newaI 4 qA_int (by decide) rfl (by decide) ⟨by decide, by decide⟩ d_Mo_write_20 (fun a ha hab => ?_)
    have hMo : ∀ w, zM d B V nk ns ne ec (zu G a w) := fun w => hM.out (hM.nn_ ha)
    refine z_dup d_Mo_write_22 rfl ?_
    refine z_iconst (v := (nI 0)) d_Mo_write_23 (by decide) ?_
    refine z_iload_n 1 d_Mo_write_24 rfl rfl ?_
    refine z_iastN zu_s (show 0 < 4 by decide) (by decide) d_Mo_write_25 ?_
    refine z_one ?_
    refine z_dup d_Mo_write_26 rfl ?_
    refine z_iconst (v := (nI 1)) d_Mo_write_27 (by decide) ?_
    refine z_iload_n 2 d_Mo_write_28 rfl rfl ?_
    refine z_iastN zu_s (show 1 < 4 by decide) (by decide) d_Mo_write_29 ?_
    refine z_one ?_
    refine z_dup d_Mo_write_30 rfl ?_
    refine z_iconst (v := (nI 2)) d_Mo_write_31 (by decide) ?_
    refine z_aload_n 0 d_Mo_write_32 rfl rfl ?_
    refine z_get zc_Mo 2 (by decide) qF_Mo_102 (hMo _).mo rfl d_Mo_write_33 ?_
    refine z_iastN zu_s (show 2 < 4 by decide) (by decide) d_Mo_write_36 ?_
    refine z_one ?_
    refine z_dup d_Mo_write_37 rfl ?_
    refine z_iconst (v := 3) d_Mo_write_38 (by decide) ?_
    refine z_iload_n 1 d_Mo_write_39 rfl rfl ?_
    refine z_sipush (v := 1009) d_Mo_write_40 (by decide) ?_
    refine z_imul d_Mo_write_43 ?_
    refine z_bipush (v := 31) d_Mo_write_44 (by decide) ?_
    refine z_iload_n 2 d_Mo_write_46 rfl rfl ?_
    refine z_imul d_Mo_write_47 ?_
    refine z_iadd d_Mo_write_48 ?_
    refine z_bipush (v := 7) d_Mo_write_49 (by decide) ?_
    refine z_aload_n 0 d_Mo_write_51 rfl rfl ?_
    refine z_get zc_Mo 2 (by decide) qF_Mo_102 (hMo _).mo rfl d_Mo_write_52 ?_
    refine z_imul d_Mo_write_55 ?_
    refine z_iadd d_Mo_write_56 ?_
    refine z_aload_n 0 d_Mo_write_57 rfl rfl ?_
    refine z_get zc_Mo 8 (by decide) qF_Mo_23 (hMo _).mo rfl d_Mo_write_58 ?_
    refine z_callF0 (m_AL_size hs0 hst (hMo _).el) ym_AL_size zF_AL_size qM_Mo_94 zc_AL (hMo _).el d_Mo_write_61 rfl (Nat.le_of_ble_eq_true rfl) ⟨by decide, by decide⟩ ⟨Nat.le_of_ble_eq_true rfl, Nat.le_of_ble_eq_true rfl⟩ ?_
    refine z_iadd d_Mo_write_66 ?_
    refine z_sipush (v := 9973) d_Mo_write_67 (by decide) ?_
    refine z_irem d_Mo_write_70 (by decide) ?_
    refine z_iastN zu_s (show 3 < 4 by decide) (by decide) d_Mo_write_71 ?_
    refine z_one ?_
    refine z_callFp1 ((m_AL_addM hs0 hst (hMo _).el ((hMo _).eq h64).1 ((hMo _).eq h64).2 (Or.inr ⟨4, _, zu_s⟩))) ym_AL_add_1 zF_AL_add_1 qM_Mo_111 zc_AL (hMo _).el d_Mo_write_72 rfl (Nat.le_of_ble_eq_true rfl) ⟨by decide, by decide⟩ ⟨Nat.le_of_ble_eq_true rfl, Nat.le_of_ble_eq_true rfl⟩ (fun r_72 G_72 hp_72 => ?_)
    obtain ⟨hr_72, b, cap', f', hd9, hf1, hf2, hf3, hg_72⟩ := hp_72
    obtain rfl : r_72 = some (.int 1) := hr_72
    have hd8 : (b = B 6 ∧ 0 < ne ∧ cap' = ec ∧ ne < ec) ∨ (G b = none ∧ a ≠ b ∧ ((ne = 0 ∧ cap' = 10) ∨ (0 < ne ∧ ne = ec ∧ cap' = ec + ec / 2))) := by
      rcases hd9 with q | ⟨q1, q2, q3⟩
      · exact Or.inl q
      · have q4 : a ≠ b := fun e => by rw [← e, zu_s] at q1; cases q1
        exact Or.inr ⟨by rw [zu_n q4.symm] at q1; exact q1, q4, q3⟩
    have hfe : f' = fun j => if j < ne + 1 then some (zBe B ne a b (500 + j)) else none := funext fun j => by
      by_cases e1 : j < ne
      · rw [if_pos (by omega), hf1 j e1]
        refine (if_pos e1).trans ?_
        exact congrArg some ((if_neg (by omega)).trans (if_neg (by omega))).symm
      · by_cases e2 : j = ne
        · subst e2
          rw [if_pos (by omega), hf2]
          exact congrArg some (if_pos rfl).symm
        · rw [if_neg (by omega)]
          exact hf3 j (by omega) (fun i hi => if_neg (by omega))
    have hnw := fun w => hM.newe h64 w (V 5 0 + 1) ha hd8 hfe
    subst hg_72
    refine z_pop d_Mo_write_77 rfl ?_
    exact z_vret rfl (⟨rfl, _, _, _, _, (hnw _).1, Or.inr ⟨h64, rfl, rfl⟩, (hnw (fun _ => 0)).2.1, (hnw _).2.2, fun q h1 h2 => (if_neg (by omega)).trans (if_neg h2)⟩) (by first | decide | omega) (by first | decide | omega) d_Mo_write_78
  · skip
    exact z_vret rfl (⟨rfl, B, V, ne, ec, hM, Or.inl ⟨(nI_eq (by omega) (by decide)).mp (by first | exact c_11 | exact Decidable.not_not.mp c_11), (nI_eq (by omega) (by decide)).mp (by first | exact c_11 | exact Decidable.not_not.mp c_11), rfl⟩, mNw.rf, zFr.rf, fun _ _ _ => rfl⟩) (by first | decide | omega) (by first | decide | omega) d_Mo_write_14
