
/-- sets as numbers -/
def zsetN (f : Nat → Bool) : Nat → Nat
  | 0 => 0
  | n + 1 => zsetN f n + (if f n then 2 ^ n else 0)
theorem zor_bit : ∀ n, n < 9 → ∀ q, q < 2 ^ n → nI q ||| (1 <<< (nI n &&& 31)) = nI (q + 2 ^ n) := by decide +kernel
theorem zset_N (f : Nat → Bool) : ∀ n, n ≤ 9 → zset f n = nI (zsetN f n) ∧ zsetN f n < 2 ^ n
  | 0, _ => ⟨rfl, by show 0 < 1; decide⟩
  | n + 1, h => by
    obtain ⟨h1, h2⟩ := zset_N f n (by omega)
    unfold zset zsetN
    by_cases hf : f n = true
    · rw [if_pos hf, if_pos hf, h1, zor_bit n (by omega) _ h2]
      exact ⟨rfl, by rw [Nat.pow_succ]; omega⟩
    · rw [if_neg hf, if_neg hf, h1]
      exact ⟨rfl, by rw [Nat.pow_succ]; omega⟩
theorem zset_lt (f : Nat → Bool) {n : Nat} (h : n ≤ 9) : ∃ q, q < 2 ^ n ∧ zset f n = nI q := ⟨_, (zset_N f n h).2, (zset_N f n h).1⟩


def zwhf (ks ss ds tr : Nat → Int32) (n : Nat) : Bool := zcomes tr (nI n) (zlf ks ss ds (nI n))

theorem d_Re_isWhole_0 : decode c_Re_isWhole 0 = .ok (.iconst 0, 1) := by decide +kernel
theorem d_Re_isWhole_1 : decode c_Re_isWhole 1 = .ok (.istore_n 1, 1) := by decide +kernel
theorem d_Re_isWhole_2 : decode c_Re_isWhole 2 = .ok (.iload_n 1, 1) := by decide +kernel
theorem d_Re_isWhole_3 : decode c_Re_isWhole 3 = .ok (.aload_n 0, 1) := by decide +kernel
theorem d_Re_isWhole_4 : decode c_Re_isWhole 4 = .ok (.getfield 24, 3) := by decide +kernel
theorem d_Re_isWhole_7 : decode c_Re_isWhole 7 = .ok (.if_icmp .ge 24, 3) := by decide +kernel
theorem d_Re_isWhole_10 : decode c_Re_isWhole 10 = .ok (.aload_n 0, 1) := by decide +kernel
theorem d_Re_isWhole_11 : decode c_Re_isWhole 11 = .ok (.iload_n 1, 1) := by decide +kernel
theorem d_Re_isWhole_12 : decode c_Re_isWhole 12 = .ok (.aload_n 0, 1) := by decide +kernel
theorem d_Re_isWhole_13 : decode c_Re_isWhole 13 = .ok (.iload_n 1, 1) := by decide +kernel
theorem d_Re_isWhole_14 : decode c_Re_isWhole 14 = .ok (.invokevirtual 32, 3) := by decide +kernel
theorem d_Re_isWhole_17 : decode c_Re_isWhole 17 = .ok (.invokevirtual 58, 3) := by decide +kernel
theorem d_Re_isWhole_20 : decode c_Re_isWhole 20 = .ok (.ifCond .ne 5, 3) := by decide +kernel
theorem d_Re_isWhole_23 : decode c_Re_isWhole 23 = .ok (.iconst 0, 1) := by decide +kernel
theorem d_Re_isWhole_24 : decode c_Re_isWhole 24 = .ok (.ireturn, 1) := by decide +kernel
theorem d_Re_isWhole_25 : decode c_Re_isWhole 25 = .ok (.iinc 1 1, 3) := by decide +kernel
theorem d_Re_isWhole_28 : decode c_Re_isWhole 28 = .ok (.goto (-26), 3) := by decide +kernel
theorem d_Re_isWhole_31 : decode c_Re_isWhole 31 = .ok (.aload_n 0, 1) := by decide +kernel
theorem d_Re_isWhole_32 : decode c_Re_isWhole 32 = .ok (.getfield 24, 3) := by decide +kernel
theorem d_Re_isWhole_35 : decode c_Re_isWhole 35 = .ok (.bipush 64, 2) := by decide +kernel
theorem d_Re_isWhole_37 : decode c_Re_isWhole 37 = .ok (.if_icmp .gt 7, 3) := by decide +kernel
theorem d_Re_isWhole_40 : decode c_Re_isWhole 40 = .ok (.iconst 1, 1) := by decide +kernel
theorem d_Re_isWhole_41 : decode c_Re_isWhole 41 = .ok (.goto 4, 3) := by decide +kernel
theorem d_Re_isWhole_45 : decode c_Re_isWhole 45 = .ok (.ireturn, 1) := by decide +kernel
set_option maxHeartbeats 4000000 in
set_option maxRecDepth 100000 in
theorem m_Re_isWhole {g0 : State} {d : zD} {l : Launch} {a0 : Array Value} (hs0 : zS0 d a0 g0) (hst : l.stackTraces = false) {G : zG} {h rk rs rd rt : Nat} {ks ss ds tr : Nat → Int32} {cn : Nat} (hR : zRe d h rk rs rd rt ks ss ds tr (nI cn) G) (hcn : cn ≤ 64) : zMet g0 d l y_Re_isWhole c_Re_isWhole 2 ((Option.some Jvm.ClassFile.FieldType.boolean)) 4 0 0 [.ref h] (G) (zEq (some (.int (zb (zall (zwhf ks ss ds tr) cn)))) G) (zNo) := by
  obtain ⟨hG_Re, hG_k, hG_s, hG_d, hG_t, n1, n2, n3, n4, n5, n6⟩ := id hR
  refine z_entry hs0 hst (by decide) (Nat.le_of_ble_eq_true rfl) (fun p e s m args below meth c => ?_)
  refine z_iconst (v := (nI 0)) d_Re_isWhole_0 (by decide) ?_
  refine z_istore_n (L' := [(1, _), (0, _)]) d_Re_isWhole_1 rfl (by decide) rfl ?_
  have key_2 : ∀ (n : Nat) (i : Nat), cn - i < n → (i ≤ cn) → (zall (zwhf ks ss ds tr) i = true) → Z g0 d y_Re_isWhole c_Re_isWhole 2 ((Option.some Jvm.ClassFile.FieldType.boolean)) [] p l e (zR 4 0 0) s m args below meth c (vx_MQ below (zQc g0 d (zEq (some (.int (zb (zall (zwhf ks ss ds tr) cn)))) G)) (zXc g0 d (zNo)) args s 0 0 (zA g0)) 0 0 (G) [(1, .int (nI i)), (0, .ref h)] [] 2 := by
    intro n
    induction n with
    | zero => intro i h0; exact absurd h0 (Nat.not_lt_zero _)
    | succ n ih_2 =>
      intro i hm_2 hi ha
      refine z_iload_n 0 d_Re_isWhole_2 rfl rfl ?_
      refine z_aload_n 1 d_Re_isWhole_3 rfl rfl ?_
      refine z_get zc_Re 4 (by decide) qF_Re_24 hG_Re rfl d_Re_isWhole_4 ?_
      refine z_icmp_ge 31 d_Re_isWhole_7 (by decide) (fun c_7 => ?_) (fun c_7 => ?_)
      · skip
        obtain rfl : i = cn := by
          have := (nI_leI (by omega) (by omega)).mp c_7
          omega
        refine z_aload_n 1 d_Re_isWhole_31 rfl rfl ?_
        refine z_get zc_Re 4 (by decide) qF_Re_24 hG_Re rfl d_Re_isWhole_32 ?_
        refine z_bipush (v := 64) d_Re_isWhole_35 (by decide) ?_
        refine z_icmp_gt 44 d_Re_isWhole_37 (by decide) (fun c_37 => absurd ((nI_ltI (a := 64) (b := i) (by decide) (by omega)).mp c_37) (by omega)) (fun c_37 => ?_)
        refine z_iconst (v := 1) d_Re_isWhole_40 (by decide) ?_
        refine z_goto 45 d_Re_isWhole_41 (by decide) ?_
        exact z_zret rfl (by first | rfl | exact zb_nar _) (⟨by rw [ha]; rfl, rfl⟩) (by first | decide | omega) (by first | decide | omega) d_Re_isWhole_45
      · skip
        have hi6 : i < cn := Nat.lt_of_not_le fun q => c_7 (nI_le q (by omega))
        refine z_aload_n 1 d_Re_isWhole_10 rfl rfl ?_
        refine z_iload_n 0 d_Re_isWhole_11 rfl rfl ?_
        refine z_aload_n 1 d_Re_isWhole_12 rfl rfl ?_
        refine z_iload_n 0 d_Re_isWhole_13 rfl rfl ?_
        refine z_callV0 (m_Re_leafOf hs0 hst hR (nI i)) ym_Re_leafOf qM_Re_32 qI_Re_leafOf qV_Re_Re_leafOf zc_Re hG_Re d_Re_isWhole_14 rfl (Nat.le_of_ble_eq_true rfl) ⟨Nat.zero_le _, Nat.zero_le _⟩ ⟨Nat.le_of_ble_eq_true rfl, Nat.le_of_ble_eq_true rfl⟩ ?_
        refine z_callV0 (m_Re_comesToRoot hs0 hst hG_Re hG_t (nI i) _) ym_Re_comesToRoot qM_Re_58 qI_Re_comesToRoot qV_Re_Re_comesToRoot zc_Re hG_Re d_Re_isWhole_17 rfl (Nat.le_of_ble_eq_true rfl) ⟨Nat.zero_le _, Nat.zero_le _⟩ ⟨Nat.le_of_ble_eq_true rfl, Nat.le_of_ble_eq_true rfl⟩ ?_
        refine z_if_ne 25 d_Re_isWhole_20 (by decide) (fun c_20 => ?_) (fun c_20 => ?_)
        · skip
          refine z_iinc (v := nI (i + 1)) (L' := [(1, _), (0, _)]) 0 d_Re_isWhole_25 rfl (nI_1 i) (by decide) rfl ?_
          refine z_goto 2 d_Re_isWhole_28 (by decide) ?_
          exact ih_2 (i + 1) (by omega) (by omega) (by show (_ && _) = true; rw [ha, show zwhf ks ss ds tr i = true from (zb_n0 _).mp c_20]; rfl)
        · skip
          refine z_iconst (v := 0) d_Re_isWhole_23 (by decide) ?_
          exact z_zret rfl (by first | rfl | exact zb_nar _) (⟨by rw [zall_no (f := zwhf ks ss ds tr) (i := i) (show zwhf ks ss ds tr i = false from (zb_0 _).mp c_20) cn hi6]; rfl, rfl⟩) (by first | decide | omega) (by first | decide | omega) d_Re_isWhole_24
  exact key_2 (cn + 1) 0 (by omega) (by omega) rfl
theorem d_Re_enter_0 : decode c_Re_enter 0 = .ok (.aload_n 0, 1) := by decide +kernel
theorem d_Re_enter_1 : decode c_Re_enter 1 = .ok (.getfield 24, 3) := by decide +kernel
theorem d_Re_enter_4 : decode c_Re_enter 4 = .ok (.ifCond .lt 12, 3) := by decide +kernel
theorem d_Re_enter_7 : decode c_Re_enter 7 = .ok (.aload_n 0, 1) := by decide +kernel
theorem d_Re_enter_8 : decode c_Re_enter 8 = .ok (.getfield 24, 3) := by decide +kernel
theorem d_Re_enter_11 : decode c_Re_enter 11 = .ok (.bipush 64, 2) := by decide +kernel
theorem d_Re_enter_13 : decode c_Re_enter 13 = .ok (.if_icmp .lt 4, 3) := by decide +kernel
theorem d_Re_enter_16 : decode c_Re_enter 16 = .ok (.return_, 1) := by decide +kernel
set_option maxHeartbeats 4000000 in
set_option maxRecDepth 100000 in
theorem m_Re_enter_o {g0 : State} {d : zD} {l : Launch} {a0 : Array Value} (hs0 : zS0 d a0 g0) (hst : l.stackTraces = false) {G : zG} {h rk rs rd rt : Nat} {ks ss ds tr : Nat → Int32} (hR : zRe d h rk rs rd rt ks ss ds tr (nI 64) G) (kind subj dy : Int32) : zMet g0 d l y_Re_enter c_Re_enter 6 ((Option.none : Option Jvm.ClassFile.FieldType)) 3 0 0 [.ref h, .int kind, .int subj, .int dy] (G) (zEq none G) (zNo) := by
  obtain ⟨hG_Re, hG_k, hG_s, hG_d, hG_t, n1, n2, n3, n4, n5, n6⟩ := id hR
  refine z_entry hs0 hst (by decide) (Nat.le_of_ble_eq_true rfl) (fun p e s m args below meth c => ?_)
  refine z_aload_n 0 d_Re_enter_0 rfl rfl ?_
  refine z_get zc_Re 4 (by decide) qF_Re_24 hG_Re rfl d_Re_enter_1 ?_
  refine z_if_lt 16 d_Re_enter_4 (by decide) (fun c_4 => (by exfalso; simp (disch := omega) only [Int32.lt_iff_toInt_lt, Int32.le_iff_toInt_le, ← Int32.toInt_inj, nI_toInt, Int32.reduceToInt] at c_4; omega)) (fun c_4 => ?_)
  refine z_aload_n 0 d_Re_enter_7 rfl rfl ?_
  refine z_get zc_Re 4 (by decide) qF_Re_24 hG_Re rfl d_Re_enter_8 ?_
  refine z_bipush (v := 64) d_Re_enter_11 (by decide) ?_
  refine z_icmp_lt 17 d_Re_enter_13 (by decide) (fun c_13 => absurd ((nI_ltI (a := 64) (b := 64) (by decide) (by decide)).mp c_13) (by decide)) (fun c_13 => ?_)
  exact z_vret rfl (⟨rfl, rfl⟩) (by first | decide | omega) (by first | decide | omega) d_Re_enter_16
theorem d_Re_enter_17 : decode c_Re_enter 17 = .ok (.aload_n 0, 1) := by decide +kernel
theorem d_Re_enter_18 : decode c_Re_enter 18 = .ok (.getfield 11, 3) := by decide +kernel
theorem d_Re_enter_21 : decode c_Re_enter 21 = .ok (.aload_n 0, 1) := by decide +kernel
theorem d_Re_enter_22 : decode c_Re_enter 22 = .ok (.getfield 24, 3) := by decide +kernel
theorem d_Re_enter_25 : decode c_Re_enter 25 = .ok (.iload_n 1, 1) := by decide +kernel
theorem d_Re_enter_26 : decode c_Re_enter 26 = .ok (.iastore, 1) := by decide +kernel
theorem d_Re_enter_27 : decode c_Re_enter 27 = .ok (.aload_n 0, 1) := by decide +kernel
theorem d_Re_enter_28 : decode c_Re_enter 28 = .ok (.getfield 15, 3) := by decide +kernel
theorem d_Re_enter_31 : decode c_Re_enter 31 = .ok (.aload_n 0, 1) := by decide +kernel
theorem d_Re_enter_32 : decode c_Re_enter 32 = .ok (.getfield 24, 3) := by decide +kernel
theorem d_Re_enter_35 : decode c_Re_enter 35 = .ok (.iload_n 2, 1) := by decide +kernel
theorem d_Re_enter_36 : decode c_Re_enter 36 = .ok (.iastore, 1) := by decide +kernel
theorem d_Re_enter_37 : decode c_Re_enter 37 = .ok (.aload_n 0, 1) := by decide +kernel
theorem d_Re_enter_38 : decode c_Re_enter 38 = .ok (.getfield 18, 3) := by decide +kernel
theorem d_Re_enter_41 : decode c_Re_enter 41 = .ok (.aload_n 0, 1) := by decide +kernel
theorem d_Re_enter_42 : decode c_Re_enter 42 = .ok (.getfield 24, 3) := by decide +kernel
theorem d_Re_enter_45 : decode c_Re_enter 45 = .ok (.iload_n 3, 1) := by decide +kernel
theorem d_Re_enter_46 : decode c_Re_enter 46 = .ok (.iastore, 1) := by decide +kernel
theorem d_Re_enter_47 : decode c_Re_enter 47 = .ok (.bipush 64, 2) := by decide +kernel
theorem d_Re_enter_49 : decode c_Re_enter 49 = .ok (.aload_n 0, 1) := by decide +kernel
theorem d_Re_enter_50 : decode c_Re_enter 50 = .ok (.getfield 24, 3) := by decide +kernel
theorem d_Re_enter_53 : decode c_Re_enter 53 = .ok (.iadd, 1) := by decide +kernel
theorem d_Re_enter_54 : decode c_Re_enter 54 = .ok (.istore 4, 2) := by decide +kernel
theorem d_Re_enter_56 : decode c_Re_enter 56 = .ok (.aload_n 0, 1) := by decide +kernel
theorem d_Re_enter_57 : decode c_Re_enter 57 = .ok (.iload 4, 2) := by decide +kernel
theorem d_Re_enter_59 : decode c_Re_enter 59 = .ok (.aload_n 0, 1) := by decide +kernel
theorem d_Re_enter_60 : decode c_Re_enter 60 = .ok (.aload_n 0, 1) := by decide +kernel
theorem d_Re_enter_61 : decode c_Re_enter 61 = .ok (.getfield 24, 3) := by decide +kernel
theorem d_Re_enter_64 : decode c_Re_enter 64 = .ok (.invokevirtual 32, 3) := by decide +kernel
theorem d_Re_enter_67 : decode c_Re_enter 67 = .ok (.invokevirtual 36, 3) := by decide +kernel
theorem d_Re_enter_70 : decode c_Re_enter 70 = .ok (.iconst 0, 1) := by decide +kernel
theorem d_Re_enter_71 : decode c_Re_enter 71 = .ok (.istore 5, 2) := by decide +kernel
theorem d_Re_enter_73 : decode c_Re_enter 73 = .ok (.iload 5, 2) := by decide +kernel
theorem d_Re_enter_75 : decode c_Re_enter 75 = .ok (.bipush 6, 2) := by decide +kernel
theorem d_Re_enter_77 : decode c_Re_enter 77 = .ok (.if_icmp .ge 21, 3) := by decide +kernel
theorem d_Re_enter_80 : decode c_Re_enter 80 = .ok (.iload 4, 2) := by decide +kernel
theorem d_Re_enter_82 : decode c_Re_enter 82 = .ok (.iconst 1, 1) := by decide +kernel
theorem d_Re_enter_83 : decode c_Re_enter 83 = .ok (.ishr, 1) := by decide +kernel
theorem d_Re_enter_84 : decode c_Re_enter 84 = .ok (.istore 4, 2) := by decide +kernel
theorem d_Re_enter_86 : decode c_Re_enter 86 = .ok (.aload_n 0, 1) := by decide +kernel
theorem d_Re_enter_87 : decode c_Re_enter 87 = .ok (.iload 4, 2) := by decide +kernel
theorem d_Re_enter_89 : decode c_Re_enter 89 = .ok (.invokevirtual 28, 3) := by decide +kernel
theorem d_Re_enter_92 : decode c_Re_enter 92 = .ok (.iinc 5 1, 3) := by decide +kernel
theorem d_Re_enter_95 : decode c_Re_enter 95 = .ok (.goto (-22), 3) := by decide +kernel
theorem d_Re_enter_98 : decode c_Re_enter 98 = .ok (.aload_n 0, 1) := by decide +kernel
theorem d_Re_enter_99 : decode c_Re_enter 99 = .ok (.dup, 1) := by decide +kernel
theorem d_Re_enter_100 : decode c_Re_enter 100 = .ok (.getfield 24, 3) := by decide +kernel
theorem d_Re_enter_103 : decode c_Re_enter 103 = .ok (.iconst 1, 1) := by decide +kernel
theorem d_Re_enter_104 : decode c_Re_enter 104 = .ok (.iadd, 1) := by decide +kernel
theorem d_Re_enter_105 : decode c_Re_enter 105 = .ok (.putfield 24, 3) := by decide +kernel
theorem d_Re_enter_108 : decode c_Re_enter 108 = .ok (.return_, 1) := by decide +kernel
set_option maxHeartbeats 4000000 in
set_option maxRecDepth 100000 in
theorem m_Re_enter {g0 : State} {d : zD} {l : Launch} {a0 : Array Value} (hs0 : zS0 d a0 g0) (hst : l.stackTraces = false) {G : zG} {h rk rs rd rt : Nat} {ks ss ds tr : Nat → Int32} {cn : Nat} (hR : zRe d h rk rs rd rt ks ss ds tr (nI cn) G) (hcn : cn < 64) (kind subj dy : Int32) : zMet g0 d l y_Re_enter c_Re_enter 6 ((Option.none : Option Jvm.ClassFile.FieldType)) 3 0 0 [.ref h, .int kind, .int subj, .int dy] (G) (zEq none (zu (zu (zu (zu (zu G rk (zI d 64 (upd ks cn kind))) rs (zI d 64 (upd ss cn subj))) rd (zI d 64 (upd ds cn dy))) rt (zI d 128 (zen (zwr 128 tr (64 + nI cn) (zlf (upd ks cn kind) (upd ss cn subj) (upd ds cn dy) (nI cn))) (64 + nI cn) 6))) h (zob 6 [.ref rk, .ref rs, .ref rd, .ref rt, .int (nI (cn + 1))]))) (zNo) := by
  obtain ⟨hG_Re, hG_k, hG_s, hG_d, hG_t, n1, n2, n3, n4, n5, n6⟩ := id hR
  have a1 : h ≠ rk := zOI hG_Re hG_k
  have a2 : h ≠ rs := zOI hG_Re hG_s
  have a3 : h ≠ rd := zOI hG_Re hG_d
  have a4 : h ≠ rt := zOI hG_Re hG_t
  refine z_entry hs0 hst (by decide) (Nat.le_of_ble_eq_true rfl) (fun p e s m args below meth c => ?_)
  refine z_aload_n 0 d_Re_enter_0 rfl rfl ?_
  refine z_get zc_Re 4 (by decide) qF_Re_24 hG_Re rfl d_Re_enter_1 ?_
  refine z_if_lt 16 d_Re_enter_4 (by decide) (fun c_4 => (by exfalso; simp (disch := omega) only [Int32.lt_iff_toInt_lt, Int32.le_iff_toInt_le, ← Int32.toInt_inj, nI_toInt, Int32.reduceToInt] at c_4; omega)) (fun c_4 => ?_)
  refine z_aload_n 0 d_Re_enter_7 rfl rfl ?_
  refine z_get zc_Re 4 (by decide) qF_Re_24 hG_Re rfl d_Re_enter_8 ?_
  refine z_bipush (v := 64) d_Re_enter_11 (by decide) ?_
  refine z_icmp_lt 17 d_Re_enter_13 (by decide) (fun c_13 => ?_) (fun c_13 => absurd ((nI_ltI (a := cn) (b := 64) (by omega) (by decide)).mpr hcn) c_13)
  refine z_aload_n 0 d_Re_enter_17 rfl rfl ?_
  refine z_get zc_Re 0 (by decide) qF_Re_11 hG_Re rfl d_Re_enter_18 ?_
  refine z_aload_n 0 d_Re_enter_21 rfl rfl ?_
  refine z_get zc_Re 4 (by decide) qF_Re_24 hG_Re rfl d_Re_enter_22 ?_
  refine z_iload_n 1 d_Re_enter_25 rfl rfl ?_
  refine z_iastN hG_k (hcn) (by decide) d_Re_enter_26 ?_
  have hG_Re := (zu_n (v := zI d 64 (upd ks cn kind)) a1).trans hG_Re
  have hG_s := (zu_n (v := zI d 64 (upd ks cn kind)) n1.symm).trans hG_s
  have hG_d := (zu_n (v := zI d 64 (upd ks cn kind)) n2.symm).trans hG_d
  have hG_t := (zu_n (v := zI d 64 (upd ks cn kind)) n3.symm).trans hG_t
  have hG_k := zu_s (G := G) (a := rk) (v := zI d 64 (upd ks cn kind))
  refine z_aload_n 0 d_Re_enter_27 rfl rfl ?_
  refine z_get zc_Re 1 (by decide) qF_Re_15 hG_Re rfl d_Re_enter_28 ?_
  refine z_aload_n 0 d_Re_enter_31 rfl rfl ?_
  refine z_get zc_Re 4 (by decide) qF_Re_24 hG_Re rfl d_Re_enter_32 ?_
  refine z_iload_n 2 d_Re_enter_35 rfl rfl ?_
  refine z_iastN hG_s (hcn) (by decide) d_Re_enter_36 ?_
  have hG_Re := (zu_n (v := zI d 64 (upd ss cn subj)) a2).trans hG_Re
  have hG_k := (zu_n (v := zI d 64 (upd ss cn subj)) n1).trans hG_k
  have hG_d := (zu_n (v := zI d 64 (upd ss cn subj)) n4.symm).trans hG_d
  have hG_t := (zu_n (v := zI d 64 (upd ss cn subj)) n5.symm).trans hG_t
  have hG_s := zu_s (G := zu G rk (zI d 64 (upd ks cn kind))) (a := rs) (v := zI d 64 (upd ss cn subj))
  refine z_aload_n 0 d_Re_enter_37 rfl rfl ?_
  refine z_get zc_Re 2 (by decide) qF_Re_18 hG_Re rfl d_Re_enter_38 ?_
  refine z_aload_n 0 d_Re_enter_41 rfl rfl ?_
  refine z_get zc_Re 4 (by decide) qF_Re_24 hG_Re rfl d_Re_enter_42 ?_
  refine z_iload_n 3 d_Re_enter_45 rfl rfl ?_
  refine z_iastN hG_d (hcn) (by decide) d_Re_enter_46 ?_
  have hG_Re := (zu_n (v := zI d 64 (upd ds cn dy)) a3).trans hG_Re
  have hG_k := (zu_n (v := zI d 64 (upd ds cn dy)) n2).trans hG_k
  have hG_s := (zu_n (v := zI d 64 (upd ds cn dy)) n4).trans hG_s
  have hG_t := (zu_n (v := zI d 64 (upd ds cn dy)) n6.symm).trans hG_t
  have hG_d := zu_s (G := zu (zu G rk (zI d 64 (upd ks cn kind))) rs (zI d 64 (upd ss cn subj))) (a := rd) (v := zI d 64 (upd ds cn dy))
  have hR2 : zRe d h rk rs rd rt (upd ks cn kind) (upd ss cn subj) (upd ds cn dy) tr (nI cn) (zu (zu (zu G rk (zI d 64 (upd ks cn kind))) rs (zI d 64 (upd ss cn subj))) rd (zI d 64 (upd ds cn dy))) := ⟨hG_Re, hG_k, hG_s, hG_d, hG_t, n1, n2, n3, n4, n5, n6⟩
  refine z_bipush (v := 64) d_Re_enter_47 (by decide) ?_
  refine z_aload_n 0 d_Re_enter_49 rfl rfl ?_
  refine z_get zc_Re 4 (by decide) qF_Re_24 hG_Re rfl d_Re_enter_50 ?_
  refine z_iadd d_Re_enter_53 ?_
  refine z_istore (L' := [(4, _), (0, _), (1, _), (2, _), (3, _)]) d_Re_enter_54 (by decide) rfl ?_
  refine z_aload_n 1 d_Re_enter_56 rfl rfl ?_
  refine z_iload 0 d_Re_enter_57 rfl ?_
  refine z_aload_n 1 d_Re_enter_59 rfl rfl ?_
  refine z_aload_n 1 d_Re_enter_60 rfl rfl ?_
  refine z_get zc_Re 4 (by decide) qF_Re_24 hG_Re rfl d_Re_enter_61 ?_
  refine z_callV0 (m_Re_leafOf hs0 hst hR2 (nI cn)) ym_Re_leafOf qM_Re_32 qI_Re_leafOf qV_Re_Re_leafOf zc_Re hG_Re d_Re_enter_64 rfl (Nat.le_of_ble_eq_true rfl) ⟨Nat.zero_le _, Nat.zero_le _⟩ ⟨Nat.le_of_ble_eq_true rfl, Nat.le_of_ble_eq_true rfl⟩ ?_
  refine z_callV0 (m_Re_putAt hs0 hst hG_Re hG_t (64 + nI cn) _) ym_Re_putAt qM_Re_36 qI_Re_putAt qV_Re_Re_putAt zc_Re hG_Re d_Re_enter_67 rfl (Nat.le_of_ble_eq_true rfl) ⟨Nat.zero_le _, Nat.zero_le _⟩ ⟨Nat.le_of_ble_eq_true rfl, Nat.le_of_ble_eq_true rfl⟩ ?_
  refine z_iconst (v := (nI 0)) d_Re_enter_70 (by decide) ?_
  refine z_istore (L' := [(5, _), (4, _), (0, _), (1, _), (2, _), (3, _)]) d_Re_enter_71 (by decide) rfl ?_
  have key_73 : ∀ (n : Nat) (i : Nat), 6 - i < n → (i ≤ 6) → Z g0 d y_Re_enter c_Re_enter 6 ((Option.none : Option Jvm.ClassFile.FieldType)) [] p l e (zR 3 0 0) s m args below meth c (vx_MQ below (zQc g0 d (zEq none (zu (zu (zu (zu (zu G rk (zI d 64 (upd ks cn kind))) rs (zI d 64 (upd ss cn subj))) rd (zI d 64 (upd ds cn dy))) rt (zI d 128 (zen (zwr 128 tr (64 + nI cn) (zlf (upd ks cn kind) (upd ss cn subj) (upd ds cn dy) (nI cn))) (64 + nI cn) 6))) h (zob 6 [.ref rk, .ref rs, .ref rd, .ref rt, .int (nI (cn + 1))])))) (zXc g0 d (zNo)) args s 0 0 (zA g0)) 0 0 (zu (zu (zu (zu G rk (zI d 64 (upd ks cn kind))) rs (zI d 64 (upd ss cn subj))) rd (zI d 64 (upd ds cn dy))) rt (zI d 128 (zen (zwr 128 tr (64 + nI cn) (zlf (upd ks cn kind) (upd ss cn subj) (upd ds cn dy) (nI cn))) (64 + nI cn) i))) [(5, .int (nI i)), (4, .int (znd (64 + nI cn) i)), (0, .ref h), (1, .int kind), (2, .int subj), (3, .int dy)] [] 73 := by
    intro n
    induction n with
    | zero => intro i h0; exact absurd h0 (Nat.not_lt_zero _)
    | succ n ih_73 =>
      intro i hm_73 hi
      have hG_Rt := (zu_n (v := zI d 128 (zen (zwr 128 tr (64 + nI cn) (zlf (upd ks cn kind) (upd ss cn subj) (upd ds cn dy) (nI cn))) (64 + nI cn) i)) a4).trans hG_Re
      have hG_tt := zu_s (G := zu (zu (zu G rk (zI d 64 (upd ks cn kind))) rs (zI d 64 (upd ss cn subj))) rd (zI d 64 (upd ds cn dy))) (a := rt) (v := zI d 128 (zen (zwr 128 tr (64 + nI cn) (zlf (upd ks cn kind) (upd ss cn subj) (upd ds cn dy) (nI cn))) (64 + nI cn) i))
      refine z_iload 0 d_Re_enter_73 rfl ?_
      refine z_bipush (v := 6) d_Re_enter_75 (by decide) ?_
      refine z_icmp_ge 98 d_Re_enter_77 (by decide) (fun c_77 => ?_) (fun c_77 => ?_)
      · skip
        obtain rfl : i = 6 := by
          have := (nI_leI (a := 6) (b := i) (by decide) (by omega)).mp c_77
          omega
        have hG_Re := (zu_n (v := zI d 128 (zen (zwr 128 tr (64 + nI cn) (zlf (upd ks cn kind) (upd ss cn subj) (upd ds cn dy) (nI cn))) (64 + nI cn) 6)) a4).trans hG_Re
        refine z_aload_n 2 d_Re_enter_98 rfl rfl ?_
        refine z_dup d_Re_enter_99 rfl ?_
        refine z_get zc_Re 4 (by decide) qF_Re_24 hG_Re rfl d_Re_enter_100 ?_
        refine z_iconst (v := 1) d_Re_enter_103 (by decide) ?_
        refine z_iadd d_Re_enter_104 ?_
        refine z_topv (nI_1 cn) ?_
        refine z_put zc_Re 4 (by decide) qF_Re_24 hG_Re rfl rfl rfl (Nat.le_of_ble_eq_true rfl) d_Re_enter_105 ?_
        exact z_vret rfl (⟨rfl, rfl⟩) (by first | decide | omega) (by first | decide | omega) d_Re_enter_108
      · skip
        have hi6 : i < 6 := Nat.lt_of_not_le fun q => c_77 (nI_le (a := 6) (b := i) q (by omega))
        refine z_iload 1 d_Re_enter_80 rfl ?_
        refine z_iconst (v := 1) d_Re_enter_82 (by decide) ?_
        refine z_ishr d_Re_enter_83 ?_
        refine z_topv (v := znd (64 + nI cn) (i + 1)) rfl ?_
        refine z_istore (L' := [(4, _), (5, _), (0, _), (1, _), (2, _), (3, _)]) d_Re_enter_84 (by decide) rfl ?_
        refine z_aload_n 2 d_Re_enter_86 rfl rfl ?_
        refine z_iload 0 d_Re_enter_87 rfl ?_
        refine z_callV0 (m_Re_joinAt hs0 hst hG_Rt hG_tt _) ym_Re_joinAt qM_Re_28 qI_Re_joinAt qV_Re_Re_joinAt zc_Re hG_Rt d_Re_enter_89 rfl (Nat.le_of_ble_eq_true rfl) ⟨Nat.zero_le _, Nat.zero_le _⟩ ⟨Nat.le_of_ble_eq_true rfl, Nat.le_of_ble_eq_true rfl⟩ ?_
        refine z_geq (G' := zu (zu (zu (zu G rk (zI d 64 (upd ks cn kind))) rs (zI d 64 (upd ss cn subj))) rd (zI d 64 (upd ds cn dy))) rt (zI d 128 (zen (zwr 128 tr (64 + nI cn) (zlf (upd ks cn kind) (upd ss cn subj) (upd ds cn dy) (nI cn))) (64 + nI cn) (i + 1)))) (by rw [zu_zu] <;> rfl) ?_
        refine z_iinc (v := nI (i + 1)) (L' := [(5, _), (4, _), (0, _), (1, _), (2, _), (3, _)]) 1 d_Re_enter_92 rfl (nI_1 i) (by decide) rfl ?_
        refine z_goto 73 d_Re_enter_95 (by decide) ?_
        exact ih_73 (i + 1) (by omega) (by omega)
  exact key_73 7 0 (by omega) (by omega)
