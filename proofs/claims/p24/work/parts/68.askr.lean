
def ocW (V : Nat → Nat → Int32) (si : Nat) : Bool := zall (roK (V 7) (gvs (V (300 + si))) (zgp (zgd (V (300 + si)) (V (400 + si)) (V (200 + si) 3))) (V (200 + si) 0).toNatClampNeg) 9
theorem ocW_t {V : Nat → Nat → Int32} {si t : Nat} (ht : V (200 + si) 0 = nI t) (h4 : t < 2 ^ 20) (h : zall (roK (V 7) (gvs (V (300 + si))) (zgp (zgd (V (300 + si)) (V (400 + si)) (V (200 + si) 3))) t) 9 = true) : some (Value.int 1) = some (Value.int (zb (ocW V si))) := by
  unfold ocW
  rw [ht, nI_clamp (by omega), h]
  rfl
theorem ocW_f {V : Nat → Nat → Int32} {si t : Nat} (ht : V (200 + si) 0 = nI t) (h4 : t < 2 ^ 20) (h : zall (roK (V 7) (gvs (V (300 + si))) (zgp (zgd (V (300 + si)) (V (400 + si)) (V (200 + si) 3))) t) 9 = false) : some (Value.int 0) = some (Value.int (zb (ocW V si))) := by
  unfold ocW
  rw [ht, nI_clamp (by omega), h]
  rfl
def rSnd (V : Nat → Nat → Int32) (si : Nat) : Bool := decide (V (200 + si) 5 ≠ 0) || ocW V si
/-- the reference's numbers are as they must be -/
def rdOk (V : Nat → Nat → Int32) (nk ns : Nat) : Prop := (∀ si, si < ns → ∀ k, k < 8 → V (400 + si) k ≤ V (200 + si) 3 ∧ (V (300 + si) k = -1 ∨ ∃ s, s < 97 ∧ V (300 + si) k = nI s)) ∧ ∀ k, k < nk → ∃ l, l < 97 ∧ V (100 + k) 3 = nI l

theorem rSnd_0 {V : Nat → Nat → Int32} {i : Nat} (c : ¬ V (200 + i) 5 = 0) : rSnd V i = true := by
  unfold rSnd
  rw [decide_eq_true (p := V (200 + i) 5 ≠ 0) c, Bool.true_or]
theorem rSnd_1 {V : Nat → Nat → Int32} {i : Nat} (c : ¬ zb (ocW V i) = 0) : rSnd V i = true := by
  unfold rSnd
  rw [(zb_n0 _).mp c, Bool.or_true]
theorem rSnd_2 {V : Nat → Nat → Int32} {i : Nat} (c : V (200 + i) 5 = 0) (c2 : zb (ocW V i) = 0) : rSnd V i = false := by
  unfold rSnd
  rw [(zb_0 _).mp c2, Bool.or_false, decide_eq_false (p := V (200 + i) 5 ≠ 0) (fun z => z c)]
theorem zbs_t {b : Bool} (h : b = true) : some (Value.int 1) = some (Value.int (zb b)) := by subst h; rfl
theorem zbs_f {b : Bool} (h : b = false) : some (Value.int 0) = some (Value.int (zb b)) := by subst h; rfl
theorem zin_sh {x : Int32} (h : x = -1 ∨ ∃ s, s < 97 ∧ x = nI s) : zin x (-1) 96 = true := by
  rcases h with rfl | ⟨s, hs, rfl⟩
  · decide
  · have key : ∀ s, s < 97 → zin (nI s) (-1) 96 = true := by decide +kernel
    exact key s hs

theorem rdOk.k {V V' : Nat → Nat → Int32} {nk ns : Nat} (h : zKn V V') (hs : ns ≤ 6) (hr : rdOk V nk ns) : rdOk V' nk ns := by
  refine ⟨fun si hsi k hk => ?_, fun k hk => ?_⟩
  · rw [h.row (r := 200 + si) (by omega) (by omega) (by omega), h.row (r := 300 + si) (by omega) (by omega) (by omega), h.row (r := 400 + si) (by omega) (by omega) (by omega)]
    exact hr.1 si hsi k hk
  · rw [h.row (r := 100 + k) (by omega) (by omega) (by omega)]
    exact hr.2 k hk

set_option maxHeartbeats 4000000 in
set_option maxRecDepth 100000 in
theorem m_Mo_isOneCurveE {g0 : State} {d : zD} {l : Launch} {a0 : Array Value} (hs0 : zS0 d a0 g0) (hst : l.stackTraces = false) {G : zG} {B : Nat → Nat} {V : Nat → Nat → Int32} {nk ns ne ec : Nat} (hM : zM d B V nk ns ne ec G) {si : Nat} (hsi : si < ns) {iv : Nat → Nat} (hiv : zIv (V 7) iv) (hsh : ∀ k, k < 8 → V (300 + si) k = -1 ∨ ∃ s, s < 97 ∧ V (300 + si) k = nI s) : zMet g0 d l y_Mo_isOneCurve c_Mo_isOneCurve 6 ((Option.some Jvm.ClassFile.FieldType.boolean)) 3 2 16 [.ref (B 0), .ref (B (200 + si))] (G) (fun r G1 => r = some (.int (zb (ocW V si))) ∧ zM d B V nk ns ne ec G1 ∧ mFr B nk ns ne G G1) (zNo) := by
  have hnk : nk ≤ 8 := hM.2.1
  have hns : ns ≤ 6 := hM.2.2.1
  have hne : ne ≤ 64 := hM.2.2.2.1
  have hp2 : 2 ^ nk ≤ 256 := Nat.pow_le_pow_right (n := 2) (by decide) hnk
  obtain ⟨t, ht1, ht4, ht⟩ := hM.tn hsi
  have hgs9 : ∀ k, k < 9 → (zgp (zgd (V (300 + si)) (V (400 + si)) (V (200 + si) 3))) k = true → gvs (V (300 + si)) k = nI (gvs (V (300 + si)) k).toNatClampNeg ∧ (gvs (V (300 + si)) k).toNatClampNeg < 97 := fun k hk h1 => by
    match k, hk, h1 with
    | 0, _, h1 => cases h1
    | k + 1, hk, h1 =>
      have h2 : (zgd (V (300 + si)) (V (400 + si)) (V (200 + si) 3)) k = true := h1
      unfold zgd at h2
      rw [Bool.and_eq_true, decide_eq_true_eq] at h2
      obtain ⟨j, hj, e⟩ := (hsh k (by omega)).resolve_left h2.1
      show V (300 + si) k = nI (V (300 + si) k).toNatClampNeg ∧ (V (300 + si) k).toNatClampNeg < 97
      rw [e, nI_clamp (by omega)]
      exact ⟨rfl, hj⟩
  refine z_entry hs0 hst (by decide) (Nat.le_of_ble_eq_true rfl) (fun p e s m args below meth c => ?_)
  refine z_bipush (v := 8) d_Mo_isOneCurve_0 (by decide) ?_
  refine z_newaI 8 qA_int (by decide) rfl (by decide) ⟨by decide, by decide⟩ d_Mo_isOneCurve_2 (fun a ha hab => ?_)
  refine z_astore_n (L' := [(2, _), (0, _), (1, _)]) d_Mo_isOneCurve_4 rfl (by decide) rfl ?_
  refine z_bipush (v := 8) d_Mo_isOneCurve_5 (by decide) ?_
  refine z_newaI 8 qA_int (by decide) rfl (by decide) ⟨by decide, by decide⟩ d_Mo_isOneCurve_7 (fun b hb hbb => ?_)
  have nab : a ≠ b := ne_of_none zu_s hb
  have hb0 : G b = none := by rw [zu_n nab.symm] at hb; exact hb
  have hMo : ∀ u w, zM d B V nk ns ne ec (zu (zu G a u) b w) := fun u w => (hM.out (hM.nn_ ha)).out (hM.nn_ hb0)
  refine z_astore_n (L' := [(3, _), (2, _), (0, _), (1, _)]) d_Mo_isOneCurve_9 rfl (by decide) rfl ?_
  refine z_iconst (v := (nI 0)) d_Mo_isOneCurve_10 (by decide) ?_
  refine z_istore (L' := [(4, _), (3, _), (2, _), (0, _), (1, _)]) d_Mo_isOneCurve_11 (by decide) rfl ?_
  refine z_iconst (v := (nI 0)) d_Mo_isOneCurve_13 (by decide) ?_
  refine z_istore (L' := [(5, _), (4, _), (3, _), (2, _), (0, _), (1, _)]) d_Mo_isOneCurve_14 (by decide) rfl ?_
  have key_16 : ∀ (n : Nat) (i : Nat) (ct : Nat) (P2 N2 : Nat → Int32), 8 - i < n → (i ≤ 8) → (ct ≤ i) → (ocS (V 7) (gvs (V (300 + si))) (zgp (zgd (V (300 + si)) (V (400 + si)) (V (200 + si) 3))) t P2 N2 ct (i + 1)) → Z g0 d y_Mo_isOneCurve c_Mo_isOneCurve 6 ((Option.some Jvm.ClassFile.FieldType.boolean)) [] p l e (zR 3 2 16) s m args below meth c (vx_MQ below (zQc g0 d (fun r G1 => r = some (.int (zb (ocW V si))) ∧ zM d B V nk ns ne ec G1 ∧ mFr B nk ns ne G G1)) (zXc g0 d (zNo)) args s 2 16 (zA g0)) 2 16 (zu (zu G a (zI d 8 P2)) b (zI d 8 N2)) [(5, .int (nI i)), (4, .int (nI ct)), (3, .ref b), (2, .ref a), (0, .ref (B 0)), (1, .ref (B (200 + si)))] [] 16 := by
    intro n
    induction n with
    | zero => intro i ct P2 N2 h0; exact absurd h0 (Nat.not_lt_zero _)
    | succ n ih_16 =>
      intro i ct P2 N2 hm_16 hi hct hoc
      refine z_iload 0 d_Mo_isOneCurve_16 rfl ?_
      refine z_bipush (v := 8) d_Mo_isOneCurve_18 (by decide) ?_
      refine z_icmp_ge 108 d_Mo_isOneCurve_20 (by decide) (fun c_20 => ?_) (fun c_20 => ?_)
      · skip
        obtain rfl : i = 8 := by
          have := (nI_leI (a := 8) (b := i) (by decide) (by omega)).mp c_20
          omega
        refine z_iconst (v := 1) d_Mo_isOneCurve_108 (by decide) ?_
        exact z_zret rfl (by first | rfl | exact zb_nar _) (⟨ocW_t ht (by omega) hoc.2.2, hMo _ _, (zFr.new ha).nw hb0⟩) (by first | decide | omega) (by first | decide | omega) d_Mo_isOneCurve_109
      · skip
        have hi6 : i < 8 := Nat.lt_of_not_le fun q => c_20 (nI_le (a := 8) (b := i) q (by omega))
        refine z_aload_n 5 d_Mo_isOneCurve_23 rfl rfl ?_
        refine z_iload 0 d_Mo_isOneCurve_24 rfl ?_
        refine z_callV0 (m_MS_isGood hs0 hst ((hMo _ _).se hsi) hi6) ym_MS_isGood qM_Mo_159 qI_MS_isGood qV_MS_MS_isGood zc_MS ((hMo _ _).se hsi).1 d_Mo_isOneCurve_26 rfl (Nat.le_of_ble_eq_true rfl) ⟨by decide, by decide⟩ ⟨Nat.le_of_ble_eq_true rfl, Nat.le_of_ble_eq_true rfl⟩ ?_
        refine z_if_ne 35 d_Mo_isOneCurve_29 (by decide) (fun c_29 => ?_) (fun c_29 => ?_)
        · skip
          have hfi : (zgp (zgd (V (300 + si)) (V (400 + si)) (V (200 + si) 3))) (i + 1) = true := (zb_n0 _).mp c_29
          refine z_iload 1 d_Mo_isOneCurve_35 rfl ?_
          refine z_aload_n 5 d_Mo_isOneCurve_37 rfl rfl ?_
          refine z_get zc_MS 0 (by decide) qF_Mo_69 ((hMo _ _).se hsi).1 rfl d_Mo_isOneCurve_38 ?_
          refine z_topv ht ?_
          refine z_icmp_ne 68 d_Mo_isOneCurve_41 (by decide) (fun c_41 => ?_) (fun c_41 => ?_)
          · skip
            refine z_iload 1 d_Mo_isOneCurve_68 rfl ?_
            refine z_aload_n 5 d_Mo_isOneCurve_70 rfl rfl ?_
            refine z_get zc_MS 0 (by decide) qF_Mo_69 ((hMo _ _).se hsi).1 rfl d_Mo_isOneCurve_71 ?_
            refine z_topv ht ?_
            refine z_icmp_ne 80 d_Mo_isOneCurve_74 (by decide) (fun c_74 => ?_) (fun c_74 => ?_)
            · skip
              refine z_aload_n 3 d_Mo_isOneCurve_80 rfl rfl ?_
              refine z_iload 1 d_Mo_isOneCurve_81 rfl ?_
              refine z_iload 0 d_Mo_isOneCurve_83 rfl ?_
              refine z_iconst (v := 1) d_Mo_isOneCurve_85 (by decide) ?_
              refine z_iadd d_Mo_isOneCurve_86 ?_
              refine z_topv (nI_1 i) ?_
              refine z_iastN ((zu_n nab).trans zu_s) (show ct < 8 by omega) (by decide) d_Mo_isOneCurve_87 ?_
              refine z_geq (G' := zu (zu G a (zI d 8 (upd P2 ct (nI (i + 1))))) b (zI d 8 N2)) (by rw [zu_comm nab.symm, zu_zu] <;> rfl) ?_
              refine z_aload_n 2 d_Mo_isOneCurve_88 rfl rfl ?_
              refine z_iload 1 d_Mo_isOneCurve_89 rfl ?_
              refine z_aload_n 5 d_Mo_isOneCurve_91 rfl rfl ?_
              refine z_get zc_MS 6 (by decide) qF_Mo_46 ((hMo _ _).se hsi).1 rfl d_Mo_isOneCurve_92 ?_
              refine z_iload 0 d_Mo_isOneCurve_95 rfl ?_
              refine z_ialdN ((hMo _ _).se hsi).2.1 (hi6) (by decide) d_Mo_isOneCurve_97 ?_
              refine z_iastN zu_s (show ct < 8 by omega) (by decide) d_Mo_isOneCurve_98 ?_
              refine z_one ?_
              refine z_iinc (v := nI (ct + 1)) (L' := [(4, _), (5, _), (3, _), (2, _), (0, _), (1, _)]) 1 d_Mo_isOneCurve_99 rfl (nI_1 ct) (by decide) rfl ?_
              refine z_iinc (v := nI (i + 1)) (L' := [(5, _), (4, _), (3, _), (2, _), (0, _), (1, _)]) 1 d_Mo_isOneCurve_102 rfl (nI_1 i) (by decide) rfl ?_
              refine z_goto 16 d_Mo_isOneCurve_105 (by decide) ?_
              first
                | exact absurd c_74 c_41
                | exact absurd c_41 c_74
                | exact ih_16 (i + 1) (ct + 1) _ _ (by omega) (by omega) (by omega) (hoc.add hfi (fun q => c_74 (congrArg nI q)))
                | exact ih_16 (i + 1) ct _ _ (by omega) (by omega) (by omega) (hoc.agree hctt (hth.symm.trans c_63))
                | exact ih_16 (i + 1) ct _ _ (by omega) (by omega) (by omega) (hoc.skip hfn)
            · skip
              refine z_goto 102 d_Mo_isOneCurve_77 (by decide) ?_
              refine z_iinc (v := nI (i + 1)) (L' := [(5, _), (4, _), (3, _), (2, _), (0, _), (1, _)]) 0 d_Mo_isOneCurve_102 rfl (nI_1 i) (by decide) rfl ?_
              refine z_goto 16 d_Mo_isOneCurve_105 (by decide) ?_
              first
                | exact absurd c_74 c_41
                | exact absurd c_41 c_74
                | exact ih_16 (i + 1) (ct + 1) _ _ (by omega) (by omega) (by omega) (hoc.add hfi (fun q => c_74 (congrArg nI q)))
                | exact ih_16 (i + 1) ct _ _ (by omega) (by omega) (by omega) (hoc.agree hctt (hth.symm.trans c_63))
                | exact ih_16 (i + 1) ct _ _ (by omega) (by omega) (by omega) (hoc.skip hfn)
          · skip
            have hctt : ct = t := (nI_eq (by omega) (by omega)).mp c_41
            have hth := hoc.th (by omega) hiv (g := fun k => (gvs (V (300 + si)) k).toNatClampNeg) hgs9 hctt (x := i + 1) (by omega)
            refine z_aload_n 4 d_Mo_isOneCurve_44 rfl rfl ?_
            refine z_aload_n 3 d_Mo_isOneCurve_45 rfl rfl ?_
            refine z_aload_n 2 d_Mo_isOneCurve_46 rfl rfl ?_
            refine z_iload 1 d_Mo_isOneCurve_47 rfl ?_
            refine z_iload 0 d_Mo_isOneCurve_49 rfl ?_
            refine z_iconst (v := 1) d_Mo_isOneCurve_51 (by decide) ?_
            refine z_iadd d_Mo_isOneCurve_52 ?_
            refine z_topv (nI_1 i) ?_
            refine z_callV0 (m_Mo_through hs0 hst (hMo _ _) ((zu_n nab).trans zu_s) zu_s (show ct ≤ 8 by omega) (by decide) (nI (i + 1))) ym_Mo_through qM_Mo_84 qI_Mo_through qV_Mo_Mo_through zc_Mo (hMo _ _).mo d_Mo_isOneCurve_53 rfl (Nat.le_of_ble_eq_true rfl) ⟨by decide, by decide⟩ ⟨Nat.le_of_ble_eq_true rfl, Nat.le_of_ble_eq_true rfl⟩ ?_
            refine z_aload_n 5 d_Mo_isOneCurve_56 rfl rfl ?_
            refine z_get zc_MS 6 (by decide) qF_Mo_46 ((hMo _ _).se hsi).1 rfl d_Mo_isOneCurve_57 ?_
            refine z_iload 0 d_Mo_isOneCurve_60 rfl ?_
            refine z_ialdN ((hMo _ _).se hsi).2.1 (hi6) (by decide) d_Mo_isOneCurve_62 ?_
            refine z_icmp_eq 68 d_Mo_isOneCurve_63 (by decide) (fun c_63 => ?_) (fun c_63 => ?_)
            · skip
              refine z_iload 1 d_Mo_isOneCurve_68 rfl ?_
              refine z_aload_n 5 d_Mo_isOneCurve_70 rfl rfl ?_
              refine z_get zc_MS 0 (by decide) qF_Mo_69 ((hMo _ _).se hsi).1 rfl d_Mo_isOneCurve_71 ?_
              refine z_topv ht ?_
              refine z_icmp_ne 80 d_Mo_isOneCurve_74 (by decide) (fun c_74 => ?_) (fun c_74 => ?_)
              · skip
                refine z_aload_n 3 d_Mo_isOneCurve_80 rfl rfl ?_
                refine z_iload 1 d_Mo_isOneCurve_81 rfl ?_
                refine z_iload 0 d_Mo_isOneCurve_83 rfl ?_
                refine z_iconst (v := 1) d_Mo_isOneCurve_85 (by decide) ?_
                refine z_iadd d_Mo_isOneCurve_86 ?_
                refine z_topv (nI_1 i) ?_
                refine z_iastN ((zu_n nab).trans zu_s) (show ct < 8 by omega) (by decide) d_Mo_isOneCurve_87 ?_
                refine z_geq (G' := zu (zu G a (zI d 8 (upd P2 ct (nI (i + 1))))) b (zI d 8 N2)) (by rw [zu_comm nab.symm, zu_zu] <;> rfl) ?_
                refine z_aload_n 2 d_Mo_isOneCurve_88 rfl rfl ?_
                refine z_iload 1 d_Mo_isOneCurve_89 rfl ?_
                refine z_aload_n 5 d_Mo_isOneCurve_91 rfl rfl ?_
                refine z_get zc_MS 6 (by decide) qF_Mo_46 ((hMo _ _).se hsi).1 rfl d_Mo_isOneCurve_92 ?_
                refine z_iload 0 d_Mo_isOneCurve_95 rfl ?_
                refine z_ialdN ((hMo _ _).se hsi).2.1 (hi6) (by decide) d_Mo_isOneCurve_97 ?_
                refine z_iastN zu_s (show ct < 8 by omega) (by decide) d_Mo_isOneCurve_98 ?_
                refine z_one ?_
                refine z_iinc (v := nI (ct + 1)) (L' := [(4, _), (5, _), (3, _), (2, _), (0, _), (1, _)]) 1 d_Mo_isOneCurve_99 rfl (nI_1 ct) (by decide) rfl ?_
                refine z_iinc (v := nI (i + 1)) (L' := [(5, _), (4, _), (3, _), (2, _), (0, _), (1, _)]) 1 d_Mo_isOneCurve_102 rfl (nI_1 i) (by decide) rfl ?_
                refine z_goto 16 d_Mo_isOneCurve_105 (by decide) ?_
                first
                  | exact absurd c_74 c_41
                  | exact absurd c_41 c_74
                  | exact ih_16 (i + 1) (ct + 1) _ _ (by omega) (by omega) (by omega) (hoc.add hfi (fun q => c_74 (congrArg nI q)))
                  | exact ih_16 (i + 1) ct _ _ (by omega) (by omega) (by omega) (hoc.agree hctt (hth.symm.trans c_63))
                  | exact ih_16 (i + 1) ct _ _ (by omega) (by omega) (by omega) (hoc.skip hfn)
              · skip
                refine z_goto 102 d_Mo_isOneCurve_77 (by decide) ?_
                refine z_iinc (v := nI (i + 1)) (L' := [(5, _), (4, _), (3, _), (2, _), (0, _), (1, _)]) 0 d_Mo_isOneCurve_102 rfl (nI_1 i) (by decide) rfl ?_
                refine z_goto 16 d_Mo_isOneCurve_105 (by decide) ?_
                first
                  | exact absurd c_74 c_41
                  | exact absurd c_41 c_74
                  | exact ih_16 (i + 1) (ct + 1) _ _ (by omega) (by omega) (by omega) (hoc.add hfi (fun q => c_74 (congrArg nI q)))
                  | exact ih_16 (i + 1) ct _ _ (by omega) (by omega) (by omega) (hoc.agree hctt (hth.symm.trans c_63))
                  | exact ih_16 (i + 1) ct _ _ (by omega) (by omega) (by omega) (hoc.skip hfn)
            · skip
              refine z_iconst (v := 0) d_Mo_isOneCurve_66 (by decide) ?_
              exact z_zret rfl (by first | rfl | exact zb_nar _) (⟨ocW_f ht (by omega) (hoc.fail hfi hctt (by omega) (fun q => c_63 (hth.trans q))), hMo _ _, (zFr.new ha).nw hb0⟩) (by first | decide | omega) (by first | decide | omega) d_Mo_isOneCurve_67
        · skip
          have hfn : (zgp (zgd (V (300 + si)) (V (400 + si)) (V (200 + si) 3))) (i + 1) = false := (zb_0 _).mp c_29
          refine z_goto 102 d_Mo_isOneCurve_32 (by decide) ?_
          refine z_iinc (v := nI (i + 1)) (L' := [(5, _), (4, _), (3, _), (2, _), (0, _), (1, _)]) 0 d_Mo_isOneCurve_102 rfl (nI_1 i) (by decide) rfl ?_
          refine z_goto 16 d_Mo_isOneCurve_105 (by decide) ?_
          first
            | exact absurd c_74 c_41
            | exact absurd c_41 c_74
            | exact ih_16 (i + 1) (ct + 1) _ _ (by omega) (by omega) (by omega) (hoc.add hfi (fun q => c_74 (congrArg nI q)))
            | exact ih_16 (i + 1) ct _ _ (by omega) (by omega) (by omega) (hoc.agree hctt (hth.symm.trans c_63))
            | exact ih_16 (i + 1) ct _ _ (by omega) (by omega) (by omega) (hoc.skip hfn)
  exact key_16 9 0 0 _ _ (by omega) (by omega) (by omega) (ocS.z.skip rfl)
set_option maxHeartbeats 4000000 in
set_option maxRecDepth 100000 in
theorem m_Mo_isSoundNowE {g0 : State} {d : zD} {l : Launch} {a0 : Array Value} (hs0 : zS0 d a0 g0) (hst : l.stackTraces = false) {G : zG} {B : Nat → Nat} {V : Nat → Nat → Int32} {nk ns ne ec : Nat} (hM : zM d B V nk ns ne ec G) {iv : Nat → Nat} (hiv : zIv (V 7) iv) (hrd : rdOk V nk ns) : zMet g0 d l y_Mo_isSoundNow c_Mo_isSoundNow 4 ((Option.some Jvm.ClassFile.FieldType.boolean)) 11 12 96 [.ref (B 0)] (G) (fun r G1 => r = some (.int (zb (zall (rSnd V) ns))) ∧ zM d B V nk ns ne ec G1 ∧ mFr B nk ns ne G G1) (zNo) := by
  have hnk : nk ≤ 8 := hM.2.1
  have hns : ns ≤ 6 := hM.2.2.1
  have hne : ne ≤ 64 := hM.2.2.2.1
  have hp2 : 2 ^ nk ≤ 256 := Nat.pow_le_pow_right (n := 2) (by decide) hnk
  refine z_entry hs0 hst (by decide) (Nat.le_of_ble_eq_true rfl) (fun p e s m args below meth c => ?_)
  refine z_iconst (v := (nI 0)) d_Mo_isSoundNow_0 (by decide) ?_
  refine z_istore_n (L' := [(1, _), (0, _)]) d_Mo_isSoundNow_1 rfl (by decide) rfl ?_
  have key_2 : ∀ (n : Nat) (i : Nat) (G2 : zG), ns - i < n → (i ≤ ns) → (zM d B V nk ns ne ec G2) → (mFr B nk ns ne G G2) → (zall (rSnd V) i = true) → Z g0 d y_Mo_isSoundNow c_Mo_isSoundNow 4 ((Option.some Jvm.ClassFile.FieldType.boolean)) [] p l e (zR 11 12 96) s m args below meth c (vx_MQ below (zQc g0 d (fun r G1 => r = some (.int (zb (zall (rSnd V) ns))) ∧ zM d B V nk ns ne ec G1 ∧ mFr B nk ns ne G G1)) (zXc g0 d (zNo)) args s 12 96 (zA g0)) (2 * i) (16 * i) (G2) [(1, .int (nI i)), (0, .ref (B 0))] [] 2 := by
    intro n
    induction n with
    | zero => intro i G2 h0; exact absurd h0 (Nat.not_lt_zero _)
    | succ n ih_2 =>
      intro i G2 hm_2 hi hM2 hF2 hall
      refine z_iload_n 0 d_Mo_isSoundNow_2 rfl rfl ?_
      refine z_aload_n 1 d_Mo_isSoundNow_3 rfl rfl ?_
      refine z_get zc_Mo 7 (by decide) qF_Mo_20 hM2.mo rfl d_Mo_isSoundNow_4 ?_
      refine z_callF0 (m_AL_size hs0 hst hM2.sl) ym_AL_size zF_AL_size qM_Mo_94 zc_AL hM2.sl d_Mo_isSoundNow_7 rfl (Nat.le_of_ble_eq_true rfl) ⟨by show _ ≤ 12; omega, by show _ ≤ 96; omega⟩ ⟨Nat.le_of_ble_eq_true rfl, Nat.le_of_ble_eq_true rfl⟩ ?_
      refine z_icmp_ge 96 d_Mo_isSoundNow_12 (by decide) (fun c_12 => ?_) (fun c_12 => ?_)
      · skip
        obtain rfl : ns = i := by
          have := (nI_leI (a := ns) (b := i) (by omega) (by omega)).mp c_12
          omega
        refine z_iconst (v := (nI 0)) d_Mo_isSoundNow_96 (by decide) ?_
        refine z_istore_n (L' := [(1, _), (0, _)]) d_Mo_isSoundNow_97 rfl (by decide) rfl ?_
        have key_98 : ∀ (n : Nat) (j : Nat), nk - j < n → (j ≤ nk) → Z g0 d y_Mo_isSoundNow c_Mo_isSoundNow 4 ((Option.some Jvm.ClassFile.FieldType.boolean)) [] p l e (zR 11 12 96) s m args below meth c (vx_MQ below (zQc g0 d (fun r G1 => r = some (.int (zb (zall (rSnd V) ns))) ∧ zM d B V nk ns ne ec G1 ∧ mFr B nk ns ne G G1)) (zXc g0 d (zNo)) args s 12 96 (zA g0)) (2 * ns) (16 * ns) (G2) [(1, .int (nI j)), (0, .ref (B 0))] [] 98 := by
          intro n
          induction n with
          | zero => intro j h0; exact absurd h0 (Nat.not_lt_zero _)
          | succ n ih_98 =>
            intro j hm_98 hj
            refine z_iload_n 0 d_Mo_isSoundNow_98 rfl rfl ?_
            refine z_aload_n 1 d_Mo_isSoundNow_99 rfl rfl ?_
            refine z_get zc_Mo 6 (by decide) qF_Mo_16 hM2.mo rfl d_Mo_isSoundNow_100 ?_
            refine z_callF0 (m_AL_size hs0 hst hM2.kl) ym_AL_size zF_AL_size qM_Mo_94 zc_AL hM2.kl d_Mo_isSoundNow_103 rfl (Nat.le_of_ble_eq_true rfl) ⟨by show _ ≤ 12; omega, by show _ ≤ 96; omega⟩ ⟨Nat.le_of_ble_eq_true rfl, Nat.le_of_ble_eq_true rfl⟩ ?_
            refine z_icmp_ge 144 d_Mo_isSoundNow_108 (by decide) (fun c_108 => ?_) (fun c_108 => ?_)
            · skip
              skip
              refine z_aload_n 1 d_Mo_isSoundNow_144 rfl rfl ?_
              refine z_get zc_Mo 8 (by decide) qF_Mo_23 hM2.mo rfl d_Mo_isSoundNow_145 ?_
              refine z_callF0 (m_AL_size hs0 hst hM2.el) ym_AL_size zF_AL_size qM_Mo_94 zc_AL hM2.el d_Mo_isSoundNow_148 rfl (Nat.le_of_ble_eq_true rfl) ⟨by show _ ≤ 12; omega, by show _ ≤ 96; omega⟩ ⟨Nat.le_of_ble_eq_true rfl, Nat.le_of_ble_eq_true rfl⟩ ?_
              refine z_bipush (v := 64) d_Mo_isSoundNow_153 (by decide) ?_
              refine z_icmp_gt 162 d_Mo_isSoundNow_155 (by decide) (fun c_155 => absurd ((nI_ltI (a := 64) (b := ne) (by decide) (by omega)).mp c_155) (by omega)) (fun c_155 => ?_)
              refine z_iconst (v := 1) d_Mo_isSoundNow_158 (by decide) ?_
              refine z_goto 163 d_Mo_isSoundNow_159 (by decide) ?_
              exact z_zret rfl (by first | rfl | exact zb_nar _) (⟨zbs_t hall, hM2, hF2⟩) (by first | decide | omega) (by first | decide | omega) d_Mo_isSoundNow_163
            · skip
              have hj6 : j < nk := Nat.lt_of_not_le fun q => c_108 (nI_le q (by omega))
              refine z_aload_n 1 d_Mo_isSoundNow_111 rfl rfl ?_
              refine z_get zc_Mo 6 (by decide) qF_Mo_16 hM2.mo rfl d_Mo_isSoundNow_112 ?_
              refine z_iload_n 0 d_Mo_isSoundNow_115 rfl rfl ?_
              refine z_callF0 (m_AL_get hs0 hst (hM2.kA hj6) hj6 (if_pos hj6)) ym_AL_get zF_AL_get qM_Mo_51 zc_AL (hM2.kA hj6).1 d_Mo_isSoundNow_116 rfl (Nat.le_of_ble_eq_true rfl) ⟨by show _ ≤ 12; omega, by show _ ≤ 96; omega⟩ ⟨Nat.le_of_ble_eq_true rfl, Nat.le_of_ble_eq_true rfl⟩ ?_
              refine z_castS zc_MK qK_Mo_57 (hM2.ke hj6) d_Mo_isSoundNow_121 ?_
              refine z_get zc_MK 3 (by decide) qF_Mo_59 (hM2.ke hj6) rfl d_Mo_isSoundNow_124 ?_
              refine z_iconst (v := 0) d_Mo_isSoundNow_127 (by decide) ?_
              refine z_bipush (v := 96) d_Mo_isSoundNow_128 (by decide) ?_
              refine z_callS0 (m_Mo_in hs0 hst _ 0 96) ym_Mo_in qM_Mo_115 qS_Mo_in d_Mo_isSoundNow_130 rfl (Nat.le_of_ble_eq_true rfl) ⟨by show _ ≤ 12; omega, by show _ ≤ 96; omega⟩ ⟨Nat.le_of_ble_eq_true rfl, Nat.le_of_ble_eq_true rfl⟩ ?_
              refine z_if_ne 138 d_Mo_isSoundNow_133 (by decide) (fun c_133 => ?_) (fun c_133 => absurd ((zb_0 _).mp c_133) (by obtain ⟨l9, hl9, el9⟩ := hrd.2 j hj6; rw [el9, show zin (nI l9) 0 96 = true from zin_ok (n := 96) (by omega) (by decide)]; decide))
              refine z_iinc (v := nI (j + 1)) (L' := [(1, _), (0, _)]) 0 d_Mo_isSoundNow_138 rfl (nI_1 j) (by decide) rfl ?_
              refine z_goto 98 d_Mo_isSoundNow_141 (by decide) ?_
              exact ih_98 (j + 1) (by omega) (by omega)
        exact key_98 (nk + 1) 0 (by omega) (by omega)
      · skip
        have hi6 : i < ns := Nat.lt_of_not_le fun q => c_12 (nI_le q (by omega))
        refine z_aload_n 1 d_Mo_isSoundNow_15 rfl rfl ?_
        refine z_get zc_Mo 7 (by decide) qF_Mo_20 hM2.mo rfl d_Mo_isSoundNow_16 ?_
        refine z_iload_n 0 d_Mo_isSoundNow_19 rfl rfl ?_
        refine z_callF0 (m_AL_get hs0 hst (hM2.sA hi6) hi6 (if_pos hi6)) ym_AL_get zF_AL_get qM_Mo_51 zc_AL (hM2.sA hi6).1 d_Mo_isSoundNow_20 rfl (Nat.le_of_ble_eq_true rfl) ⟨by show _ ≤ 12; omega, by show _ ≤ 96; omega⟩ ⟨Nat.le_of_ble_eq_true rfl, Nat.le_of_ble_eq_true rfl⟩ ?_
        refine z_castS zc_MS qK_Mo_47 (hM2.se hi6).1 d_Mo_isSoundNow_25 ?_
        refine z_astore_n (L' := [(2, _), (1, _), (0, _)]) d_Mo_isSoundNow_28 rfl (by decide) rfl ?_
        refine z_aload_n 0 d_Mo_isSoundNow_29 rfl rfl ?_
        refine z_get zc_MS 5 (by decide) qF_Mo_165 (hM2.se hi6).1 rfl d_Mo_isSoundNow_30 ?_
        refine z_if_ne 46 d_Mo_isSoundNow_33 (by decide) (fun c_33 => ?_) (fun c_33 => ?_)
        · skip
          refine z_iconst (v := (nI 0)) d_Mo_isSoundNow_46 (by decide) ?_
          refine z_istore_n (L' := [(3, _), (2, _), (1, _), (0, _)]) d_Mo_isSoundNow_47 rfl (by decide) rfl ?_
          have key_48 : ∀ (n : Nat) (j : Nat) (G3 : zG), 8 - j < n → (j ≤ 8) → (zM d B V nk ns ne ec G3) → (mFr B nk ns ne G G3) → (rSnd V i = true) → Z g0 d y_Mo_isSoundNow c_Mo_isSoundNow 4 ((Option.some Jvm.ClassFile.FieldType.boolean)) [] p l e (zR 11 12 96) s m args below meth c (vx_MQ below (zQc g0 d (fun r G1 => r = some (.int (zb (zall (rSnd V) ns))) ∧ zM d B V nk ns ne ec G1 ∧ mFr B nk ns ne G G1)) (zXc g0 d (zNo)) args s 12 96 (zA g0)) (2 * (i + 1)) (16 * (i + 1)) (G3) [(3, .int (nI j)), (2, .ref (B (200 + i))), (1, .int (nI i)), (0, .ref (B 0))] [] 48 := by
            intro n
            induction n with
            | zero => intro j G3 h0; exact absurd h0 (Nat.not_lt_zero _)
            | succ n ih_48 =>
              intro j G3 hm_48 hj hM3 hF3 hok3
              refine z_iload_n 0 d_Mo_isSoundNow_48 rfl rfl ?_
              refine z_bipush (v := 8) d_Mo_isSoundNow_49 (by decide) ?_
              refine z_icmp_ge 90 d_Mo_isSoundNow_51 (by decide) (fun c_51 => ?_) (fun c_51 => ?_)
              · skip
                refine z_iinc (v := nI (i + 1)) (L' := [(1, _), (3, _), (2, _), (0, _)]) 2 d_Mo_isSoundNow_90 rfl (nI_1 i) (by decide) rfl ?_
                refine z_goto 2 d_Mo_isSoundNow_93 (by decide) ?_
                refine z_sub (L' := [(1, _), (0, _)]) [0, 3] rfl ?_
                exact ih_2 (i + 1) _ (by omega) (by omega) hM3 hF3 (zall_s hall hok3)
              · skip
                have hj8 : j < 8 := Nat.lt_of_not_le fun q => c_51 (nI_le (a := 8) (b := j) q (by omega))
                refine z_aload_n 1 d_Mo_isSoundNow_54 rfl rfl ?_
                refine z_get zc_MS 7 (by decide) qF_Mo_140 (hM3.se hi6).1 rfl d_Mo_isSoundNow_55 ?_
                refine z_iload_n 0 d_Mo_isSoundNow_58 rfl rfl ?_
                refine z_ialdN (hM3.se hi6).2.2.1 (hj8) (by decide) d_Mo_isSoundNow_59 ?_
                refine z_aload_n 1 d_Mo_isSoundNow_60 rfl rfl ?_
                refine z_get zc_MS 3 (by decide) qF_Mo_153 (hM3.se hi6).1 rfl d_Mo_isSoundNow_61 ?_
                refine z_icmp_gt 82 d_Mo_isSoundNow_64 (by decide) (fun c_64 => absurd (hrd.1 i hi6 j hj8).1 (Int32.not_le.mpr c_64)) (fun c_64 => ?_)
                refine z_aload_n 1 d_Mo_isSoundNow_67 rfl rfl ?_
                refine z_get zc_MS 6 (by decide) qF_Mo_46 (hM3.se hi6).1 rfl d_Mo_isSoundNow_68 ?_
                refine z_iload_n 0 d_Mo_isSoundNow_71 rfl rfl ?_
                refine z_ialdN (hM3.se hi6).2.1 (hj8) (by decide) d_Mo_isSoundNow_72 ?_
                refine z_iconst (v := (-1)) d_Mo_isSoundNow_73 (by decide) ?_
                refine z_bipush (v := 96) d_Mo_isSoundNow_74 (by decide) ?_
                refine z_callS0 (m_Mo_in hs0 hst _ (-1) 96) ym_Mo_in qM_Mo_115 qS_Mo_in d_Mo_isSoundNow_76 rfl (Nat.le_of_ble_eq_true rfl) ⟨by show _ ≤ 12; omega, by show _ ≤ 96; omega⟩ ⟨Nat.le_of_ble_eq_true rfl, Nat.le_of_ble_eq_true rfl⟩ ?_
                refine z_if_ne 84 d_Mo_isSoundNow_79 (by decide) (fun c_79 => ?_) (fun c_79 => absurd ((zb_0 _).mp c_79) (by rw [zin_sh (hrd.1 i hi6 j hj8).2]; decide))
                refine z_iinc (v := nI (j + 1)) (L' := [(3, _), (2, _), (1, _), (0, _)]) 0 d_Mo_isSoundNow_84 rfl (nI_1 j) (by decide) rfl ?_
                refine z_goto 48 d_Mo_isSoundNow_87 (by decide) ?_
                exact ih_48 (j + 1) _ (by omega) (by omega) hM3 hF3 hok3
          refine z_widen (k := 2 * (i + 1)) (n := 16 * (i + 1)) (by omega) (by omega) ?_
          exact key_48 9 0 _ (by omega) (by omega) (by first | exact hM3 | exact hM2) (by first | exact hF3 | exact hF2) (by first | exact rSnd_0 c_33 | exact rSnd_1 c_41)
        · skip
          refine z_aload_n 2 d_Mo_isSoundNow_36 rfl rfl ?_
          refine z_aload_n 0 d_Mo_isSoundNow_37 rfl rfl ?_
          refine z_callVp1 ((m_Mo_isOneCurveE hs0 hst hM2 hi6 hiv (fun k hk => (hrd.1 i hi6 k hk).2))) ym_Mo_isOneCurve qM_Mo_259 qI_Mo_isOneCurve qV_Mo_Mo_isOneCurve zc_Mo hM2.mo d_Mo_isSoundNow_38 rfl (Nat.le_of_ble_eq_true rfl) ⟨by show _ ≤ 12; omega, by show _ ≤ 96; omega⟩ ⟨Nat.le_of_ble_eq_true rfl, Nat.le_of_ble_eq_true rfl⟩ (fun r_38 G_38 hp_38 => ?_)
          obtain ⟨hr_38, hM3, hF3⟩ := hp_38
          obtain rfl : r_38 = _ := hr_38
          replace hF3 := hF2.tr hF3
          refine z_if_ne 46 d_Mo_isSoundNow_41 (by decide) (fun c_41 => ?_) (fun c_41 => ?_)
          · skip
            refine z_iconst (v := (nI 0)) d_Mo_isSoundNow_46 (by decide) ?_
            refine z_istore_n (L' := [(3, _), (2, _), (1, _), (0, _)]) d_Mo_isSoundNow_47 rfl (by decide) rfl ?_
            have key_48 : ∀ (n : Nat) (j : Nat) (G3 : zG), 8 - j < n → (j ≤ 8) → (zM d B V nk ns ne ec G3) → (mFr B nk ns ne G G3) → (rSnd V i = true) → Z g0 d y_Mo_isSoundNow c_Mo_isSoundNow 4 ((Option.some Jvm.ClassFile.FieldType.boolean)) [] p l e (zR 11 12 96) s m args below meth c (vx_MQ below (zQc g0 d (fun r G1 => r = some (.int (zb (zall (rSnd V) ns))) ∧ zM d B V nk ns ne ec G1 ∧ mFr B nk ns ne G G1)) (zXc g0 d (zNo)) args s 12 96 (zA g0)) (2 * (i + 1)) (16 * (i + 1)) (G3) [(3, .int (nI j)), (2, .ref (B (200 + i))), (1, .int (nI i)), (0, .ref (B 0))] [] 48 := by
              intro n
              induction n with
              | zero => intro j G3 h0; exact absurd h0 (Nat.not_lt_zero _)
              | succ n ih_48 =>
                intro j G3 hm_48 hj hM3 hF3 hok3
                refine z_iload_n 0 d_Mo_isSoundNow_48 rfl rfl ?_
                refine z_bipush (v := 8) d_Mo_isSoundNow_49 (by decide) ?_
                refine z_icmp_ge 90 d_Mo_isSoundNow_51 (by decide) (fun c_51 => ?_) (fun c_51 => ?_)
                · skip
                  refine z_iinc (v := nI (i + 1)) (L' := [(1, _), (3, _), (2, _), (0, _)]) 2 d_Mo_isSoundNow_90 rfl (nI_1 i) (by decide) rfl ?_
                  refine z_goto 2 d_Mo_isSoundNow_93 (by decide) ?_
                  refine z_sub (L' := [(1, _), (0, _)]) [0, 3] rfl ?_
                  exact ih_2 (i + 1) _ (by omega) (by omega) hM3 hF3 (zall_s hall hok3)
                · skip
                  have hj8 : j < 8 := Nat.lt_of_not_le fun q => c_51 (nI_le (a := 8) (b := j) q (by omega))
                  refine z_aload_n 1 d_Mo_isSoundNow_54 rfl rfl ?_
                  refine z_get zc_MS 7 (by decide) qF_Mo_140 (hM3.se hi6).1 rfl d_Mo_isSoundNow_55 ?_
                  refine z_iload_n 0 d_Mo_isSoundNow_58 rfl rfl ?_
                  refine z_ialdN (hM3.se hi6).2.2.1 (hj8) (by decide) d_Mo_isSoundNow_59 ?_
                  refine z_aload_n 1 d_Mo_isSoundNow_60 rfl rfl ?_
                  refine z_get zc_MS 3 (by decide) qF_Mo_153 (hM3.se hi6).1 rfl d_Mo_isSoundNow_61 ?_
                  refine z_icmp_gt 82 d_Mo_isSoundNow_64 (by decide) (fun c_64 => absurd (hrd.1 i hi6 j hj8).1 (Int32.not_le.mpr c_64)) (fun c_64 => ?_)
                  refine z_aload_n 1 d_Mo_isSoundNow_67 rfl rfl ?_
                  refine z_get zc_MS 6 (by decide) qF_Mo_46 (hM3.se hi6).1 rfl d_Mo_isSoundNow_68 ?_
                  refine z_iload_n 0 d_Mo_isSoundNow_71 rfl rfl ?_
                  refine z_ialdN (hM3.se hi6).2.1 (hj8) (by decide) d_Mo_isSoundNow_72 ?_
                  refine z_iconst (v := (-1)) d_Mo_isSoundNow_73 (by decide) ?_
                  refine z_bipush (v := 96) d_Mo_isSoundNow_74 (by decide) ?_
                  refine z_callS0 (m_Mo_in hs0 hst _ (-1) 96) ym_Mo_in qM_Mo_115 qS_Mo_in d_Mo_isSoundNow_76 rfl (Nat.le_of_ble_eq_true rfl) ⟨by show _ ≤ 12; omega, by show _ ≤ 96; omega⟩ ⟨Nat.le_of_ble_eq_true rfl, Nat.le_of_ble_eq_true rfl⟩ ?_
                  refine z_if_ne 84 d_Mo_isSoundNow_79 (by decide) (fun c_79 => ?_) (fun c_79 => absurd ((zb_0 _).mp c_79) (by rw [zin_sh (hrd.1 i hi6 j hj8).2]; decide))
                  refine z_iinc (v := nI (j + 1)) (L' := [(3, _), (2, _), (1, _), (0, _)]) 0 d_Mo_isSoundNow_84 rfl (nI_1 j) (by decide) rfl ?_
                  refine z_goto 48 d_Mo_isSoundNow_87 (by decide) ?_
                  exact ih_48 (j + 1) _ (by omega) (by omega) hM3 hF3 hok3
            refine z_widen (k := 2 * (i + 1)) (n := 16 * (i + 1)) (by omega) (by omega) ?_
            exact key_48 9 0 _ (by omega) (by omega) (by first | exact hM3 | exact hM2) (by first | exact hF3 | exact hF2) (by first | exact rSnd_0 c_33 | exact rSnd_1 c_41)
          · skip
            refine z_iconst (v := 0) d_Mo_isSoundNow_44 (by decide) ?_
            exact z_zret rfl (by first | rfl | exact zb_nar _) (⟨zbs_f (zall_no (f := rSnd V) (i := i) (rSnd_2 c_33 c_41) ns hi6), hM3, hF3⟩) (by first | decide | omega) (by first | decide | omega) d_Mo_isSoundNow_45
  exact key_2 (ns + 1) 0 _ (by omega) (by omega) hM zFr.rf rfl
set_option maxHeartbeats 4000000 in
set_option maxRecDepth 100000 in
theorem m_Mo_isSoundE {g0 : State} {d : zD} {l : Launch} {a0 : Array Value} (hs0 : zS0 d a0 g0) (hst : l.stackTraces = false) {G : zG} {B : Nat → Nat} {V : Nat → Nat → Int32} {nk ns ne ec : Nat} (hM : zM d B V nk ns ne ec G) {iv : Nat → Nat} (hiv : zIv (V 7) iv) (hrd : rdOk V nk ns) : zMet g0 d l y_Mo_isSound c_Mo_isSound 1 ((Option.some Jvm.ClassFile.FieldType.boolean)) 12 12 96 [.ref (B 0)] (G) (mAq d B nk ns ne ec V G (fun _ b W => b = zb (zall (rSnd W) ns))) (zNo) := by
  have hnk : nk ≤ 8 := hM.2.1
  have hns : ns ≤ 6 := hM.2.2.1
  have hne : ne ≤ 64 := hM.2.2.2.1
  have hp2 : 2 ^ nk ≤ 256 := Nat.pow_le_pow_right (n := 2) (by decide) hnk
  refine z_entry hs0 hst (by decide) (Nat.le_of_ble_eq_true rfl) (fun p e s m args below meth c => ?_)
  refine z_aload_n 0 d_Mo_isSound_0 rfl rfl ?_
  refine z_iconst (v := 0) d_Mo_isSound_1 (by decide) ?_
  refine z_put zc_Mo 0 (by decide) qF_Mo_36 hM.mo rfl rfl rfl (Nat.le_of_ble_eq_true rfl) d_Mo_isSound_2 ?_
  obtain ⟨V1, hM1, hK1, hF1, hT1⟩ := hM.putT 0
  refine z_aload_n 0 d_Mo_isSound_5 rfl rfl ?_
  refine z_callVp1 ((m_Mo_isSoundNowE hs0 hst hM1 (by rw [hK1.row (r := 7) (by decide) (by decide) (by decide)]; exact hiv) (rdOk.k hK1 hns hrd))) ym_Mo_isSoundNow qM_Mo_263 qI_Mo_isSoundNow qV_Mo_Mo_isSoundNow zc_Mo hM1.mo d_Mo_isSound_6 rfl (Nat.le_of_ble_eq_true rfl) ⟨by decide, by decide⟩ ⟨Nat.le_of_ble_eq_true rfl, Nat.le_of_ble_eq_true rfl⟩ (fun r_6 G_6 hp_6 => ?_)
  obtain ⟨hr_6, hM2, hF2⟩ := hp_6
  obtain rfl : r_6 = _ := hr_6
  exact z_zret rfl (by first | rfl | exact zb_nar _) (⟨_, V1, rfl, rfl, hM2, hK1, hF1.tr hF2⟩) (by first | decide | omega) (by first | decide | omega) d_Mo_isSound_9
