
/-! what is asked, exactly: the class's answer by T, what is thrown by P; the reference's by T -/
def cAs (V : Nat → Nat → Int32) (T P : Int32 → Prop) (kk : Int32) (V' : Nat → Nat → Int32) (v : Int32) : Prop := zKo V V' ∧ ((kk = 0 ∧ T v) ∨ (kk ≠ 0 ∧ P kk))
def mAq (d : zD) (B : Nat → Nat) (nk ns ne ec : Nat) (V : Nat → Nat → Int32) (G : zG) (T : Int32 → Int32 → (Nat → Nat → Int32) → Prop) : Option Value → zG → Prop := fun r G1 => ∃ (v : Int32) (W' : Nat → Nat → Int32), r = some (.int v) ∧ T (W' 0 0) v W' ∧ zM d B W' nk ns ne ec G1 ∧ zKn V W' ∧ mFr B nk ns ne G G1

/-- what is told of the bank: class, reference -/
def qBk (V : Nat → Nat → Int32) (nk ns : Nat) (w : Int32) : Int32 := if w = 0 then nI nk else if w = 1 then nI ns else if w = 2 then V 0 0 else if w = 3 then V 10 0 else if w = 4 then V 5 0 else if w = 5 then zrd 128 (V 9) 0 1 else if w = 6 then V 0 1 else if w = 7 then V 0 2 else if w = 8 then V 0 3 else if w = 9 then nI (zcnt (fun k => decide (V (100 + k) 5 ≠ 0)) nk) else if w = 10 then zsum (fun i => zbc (zset (zcur (V (400 + i)) (V (200 + i) 3)) 8)) ns else zsum (fun i => zbc (zset (zstl (V (400 + i)) (V (200 + i) 3)) 8)) ns
def tBk (V : Nat → Nat → Int32) (nk ns : Nat) (w v : Int32) : Prop := zin w 0 11 = true ∧ v = qBk V nk ns w
def pBk (w kk : Int32) : Prop := zin w 0 11 = false ∧ kk = 1

set_option maxHeartbeats 4000000 in
set_option maxRecDepth 100000 in
theorem m_Tb_notedKeepersE {g0 : State} {d : zD} {l : Launch} {a0 : Array Value} (hs0 : zS0 d a0 g0) (hst : l.stackTraces = false) {G : zG} {A : Nat → Nat} {D : Nat → UInt64} {V : Nat → Nat → Int32} {nk ns : Nat} (hT : zT d A D V nk ns G) : zMet g0 d l y_Tb_notedKeepers c_Tb_notedKeepers 3 ((Option.some Jvm.ClassFile.FieldType.int)) 11 0 0 [.ref (A 0)] (G) (zEq (some (.int (nI (zcnt (fun k => decide (V (100 + k) 5 ≠ 0)) nk)))) G) (zNo) := by
  have hG_Tb := hT.tb
  have hnk : nk ≤ 8 := hT.2.1
  have hns : ns ≤ 6 := hT.2.2.1
  refine z_entry hs0 hst (by decide) (Nat.le_of_ble_eq_true rfl) (fun p e s m args below meth c => ?_)
  refine z_iconst (v := (nI 0)) d_Tb_notedKeepers_0 (by decide) ?_
  refine z_istore_n (L' := [(1, _), (0, _)]) d_Tb_notedKeepers_1 rfl (by decide) rfl ?_
  refine z_iconst (v := (nI 0)) d_Tb_notedKeepers_2 (by decide) ?_
  refine z_istore_n (L' := [(2, _), (1, _), (0, _)]) d_Tb_notedKeepers_3 rfl (by decide) rfl ?_
  have key_4 : ∀ (n : Nat) (i : Nat), nk - i < n → (i ≤ nk) → Z g0 d y_Tb_notedKeepers c_Tb_notedKeepers 3 ((Option.some Jvm.ClassFile.FieldType.int)) [] p l e (zR 11 0 0) s m args below meth c (vx_MQ below (zQc g0 d (zEq (some (.int (nI (zcnt (fun k => decide (V (100 + k) 5 ≠ 0)) nk)))) G)) (zXc g0 d (zNo)) args s 0 0 (zA g0)) 0 0 (G) [(2, .int (nI i)), (1, .int (nI (zcnt (fun k => decide (V (100 + k) 5 ≠ 0)) i))), (0, .ref (A 0))] [] 4 := by
    intro n
    induction n with
    | zero => intro i h0; exact absurd h0 (Nat.not_lt_zero _)
    | succ n ih_4 =>
      intro i hm_4 hi
      refine z_iload_n 0 d_Tb_notedKeepers_4 rfl rfl ?_
      refine z_aload_n 2 d_Tb_notedKeepers_5 rfl rfl ?_
      refine z_get zc_Tb 0 (by decide) qF_Tb_10 hG_Tb rfl d_Tb_notedKeepers_6 ?_
      refine z_callV0 (m_AL_size hs0 hst hT.kl) ym_AL_size qM_Tb_68 qI_AL_size qV_AL_AL_size zc_AL hT.kl d_Tb_notedKeepers_9 rfl (Nat.le_of_ble_eq_true rfl) ⟨Nat.zero_le _, Nat.zero_le _⟩ ⟨Nat.le_of_ble_eq_true rfl, Nat.le_of_ble_eq_true rfl⟩ ?_
      refine z_icmp_ge 41 d_Tb_notedKeepers_12 (by decide) (fun c_12 => ?_) (fun c_12 => ?_)
      · skip
        obtain rfl : nk = i := by
          have := (nI_leI (a := nk) (b := i) (by omega) (by omega)).mp c_12
          omega
        refine z_iload_n 1 d_Tb_notedKeepers_41 rfl rfl ?_
        exact z_iret rfl (⟨rfl, rfl⟩) (by first | decide | omega) (by first | decide | omega) d_Tb_notedKeepers_42
      · skip
        have hi6 : i < nk := Nat.lt_of_not_le fun q => c_12 (nI_le q (by omega))
        refine z_aload_n 2 d_Tb_notedKeepers_15 rfl rfl ?_
        refine z_get zc_Tb 0 (by decide) qF_Tb_10 hG_Tb rfl d_Tb_notedKeepers_16 ?_
        refine z_iload_n 0 d_Tb_notedKeepers_19 rfl rfl ?_
        refine z_callV0 (m_AL_get hs0 hst (hT.kA hi6) hi6 (if_pos hi6)) ym_AL_get qM_Tb_166 qI_AL_get qV_AL_AL_get zc_AL (hT.kA hi6).1 d_Tb_notedKeepers_20 rfl (Nat.le_of_ble_eq_true rfl) ⟨Nat.zero_le _, Nat.zero_le _⟩ ⟨Nat.le_of_ble_eq_true rfl, Nat.le_of_ble_eq_true rfl⟩ ?_
        refine z_castS zc_Ke qK_Tb_77 (hT.ke hi6) d_Tb_notedKeepers_23 ?_
        refine z_get zc_Ke 5 (by decide) qF_Tb_348 (hT.ke hi6) rfl d_Tb_notedKeepers_26 ?_
        refine z_if_eq 35 d_Tb_notedKeepers_29 (by decide) (fun c_29 => ?_) (fun c_29 => ?_)
        · skip
          rw [← zcnt_skip (f := (fun k => decide (V (100 + k) 5 ≠ 0))) (decide_eq_false (p := V (100 + i) 5 ≠ 0) (fun q => q c_29))]
          refine z_iinc (v := nI (i + 1)) (L' := [(2, _), (1, _), (0, _)]) 0 d_Tb_notedKeepers_35 rfl (nI_1 i) (by decide) rfl ?_
          refine z_goto 4 d_Tb_notedKeepers_38 (by decide) ?_
          exact ih_4 (i + 1) (by omega) (by omega)
        · skip
          refine z_iinc (v := nI (zcnt (fun k => decide (V (100 + k) 5 ≠ 0)) (i + 1))) (L' := [(1, _), (2, _), (0, _)]) 1 d_Tb_notedKeepers_32 rfl (by rw [zcnt_step (f := (fun k => decide (V (100 + k) 5 ≠ 0))) (decide_eq_true (p := V (100 + i) 5 ≠ 0) c_29)]; exact nI_1 _) (by decide) rfl ?_
          refine z_iinc (v := nI (i + 1)) (L' := [(2, _), (1, _), (0, _)]) 1 d_Tb_notedKeepers_35 rfl (nI_1 i) (by decide) rfl ?_
          refine z_goto 4 d_Tb_notedKeepers_38 (by decide) ?_
          exact ih_4 (i + 1) (by omega) (by omega)
  exact key_4 (nk + 1) 0 (by omega) (by omega)
set_option maxHeartbeats 4000000 in
set_option maxRecDepth 100000 in
theorem m_Tb_currentSharesE {g0 : State} {d : zD} {l : Launch} {a0 : Array Value} (hs0 : zS0 d a0 g0) (hst : l.stackTraces = false) {G : zG} {A : Nat → Nat} {D : Nat → UInt64} {V : Nat → Nat → Int32} {nk ns : Nat} (hT : zT d A D V nk ns G) : zMet g0 d l y_Tb_currentShares c_Tb_currentShares 3 ((Option.some Jvm.ClassFile.FieldType.int)) 11 0 0 [.ref (A 0)] (G) (zEq (some (.int (zsum (fun i => zbc (zset (zcur (V (400 + i)) (V (200 + i) 3)) 8)) ns))) G) (zNo) := by
  have hG_Tb := hT.tb
  have hnk : nk ≤ 8 := hT.2.1
  have hns : ns ≤ 6 := hT.2.2.1
  refine z_entry hs0 hst (by decide) (Nat.le_of_ble_eq_true rfl) (fun p e s m args below meth c => ?_)
  refine z_iconst (v := (nI 0)) d_Tb_currentShares_0 (by decide) ?_
  refine z_istore_n (L' := [(1, _), (0, _)]) d_Tb_currentShares_1 rfl (by decide) rfl ?_
  refine z_iconst (v := (nI 0)) d_Tb_currentShares_2 (by decide) ?_
  refine z_istore_n (L' := [(2, _), (1, _), (0, _)]) d_Tb_currentShares_3 rfl (by decide) rfl ?_
  have key_4 : ∀ (n : Nat) (i : Nat), ns - i < n → (i ≤ ns) → Z g0 d y_Tb_currentShares c_Tb_currentShares 3 ((Option.some Jvm.ClassFile.FieldType.int)) [] p l e (zR 11 0 0) s m args below meth c (vx_MQ below (zQc g0 d (zEq (some (.int (zsum (fun i => zbc (zset (zcur (V (400 + i)) (V (200 + i) 3)) 8)) ns))) G)) (zXc g0 d (zNo)) args s 0 0 (zA g0)) 0 0 (G) [(2, .int (nI i)), (1, .int (zsum (fun i => zbc (zset (zcur (V (400 + i)) (V (200 + i) 3)) 8)) i)), (0, .ref (A 0))] [] 4 := by
    intro n
    induction n with
    | zero => intro i h0; exact absurd h0 (Nat.not_lt_zero _)
    | succ n ih_4 =>
      intro i hm_4 hi
      refine z_iload_n 0 d_Tb_currentShares_4 rfl rfl ?_
      refine z_aload_n 2 d_Tb_currentShares_5 rfl rfl ?_
      refine z_get zc_Tb 1 (by decide) qF_Tb_16 hG_Tb rfl d_Tb_currentShares_6 ?_
      refine z_callV0 (m_AL_size hs0 hst hT.sl) ym_AL_size qM_Tb_68 qI_AL_size qV_AL_AL_size zc_AL hT.sl d_Tb_currentShares_9 rfl (Nat.le_of_ble_eq_true rfl) ⟨Nat.zero_le _, Nat.zero_le _⟩ ⟨Nat.le_of_ble_eq_true rfl, Nat.le_of_ble_eq_true rfl⟩ ?_
      refine z_icmp_ge 41 d_Tb_currentShares_12 (by decide) (fun c_12 => ?_) (fun c_12 => ?_)
      · skip
        obtain rfl : ns = i := by
          have := (nI_leI (a := ns) (b := i) (by omega) (by omega)).mp c_12
          omega
        refine z_iload_n 1 d_Tb_currentShares_41 rfl rfl ?_
        exact z_iret rfl (⟨rfl, rfl⟩) (by first | decide | omega) (by first | decide | omega) d_Tb_currentShares_42
      · skip
        have hi6 : i < ns := Nat.lt_of_not_le fun q => c_12 (nI_le q (by omega))
        refine z_iload_n 1 d_Tb_currentShares_15 rfl rfl ?_
        refine z_aload_n 2 d_Tb_currentShares_16 rfl rfl ?_
        refine z_get zc_Tb 1 (by decide) qF_Tb_16 hG_Tb rfl d_Tb_currentShares_17 ?_
        refine z_iload_n 0 d_Tb_currentShares_20 rfl rfl ?_
        refine z_callV0 (m_AL_get hs0 hst (hT.sA hi6) hi6 (if_pos hi6)) ym_AL_get qM_Tb_166 qI_AL_get qV_AL_AL_get zc_AL (hT.sA hi6).1 d_Tb_currentShares_21 rfl (Nat.le_of_ble_eq_true rfl) ⟨Nat.zero_le _, Nat.zero_le _⟩ ⟨Nat.le_of_ble_eq_true rfl, Nat.le_of_ble_eq_true rfl⟩ ?_
        refine z_castS zc_Se qK_Tb_115 (hT.se hi6).1 d_Tb_currentShares_24 ?_
        refine z_callV0 (m_Se_currentSet hs0 hst (hT.se hi6)) ym_Se_currentSet qM_Tb_144 qI_Se_currentSet qV_Se_Se_currentSet zc_Se (hT.se hi6).1 d_Tb_currentShares_27 rfl (Nat.le_of_ble_eq_true rfl) ⟨Nat.zero_le _, Nat.zero_le _⟩ ⟨Nat.le_of_ble_eq_true rfl, Nat.le_of_ble_eq_true rfl⟩ ?_
        refine z_callS0 (m_In_bitCount hs0 hst _) ym_In_bitCount qM_Tb_105 qS_In_bitCount d_Tb_currentShares_30 rfl (Nat.le_of_ble_eq_true rfl) ⟨Nat.zero_le _, Nat.zero_le _⟩ ⟨Nat.le_of_ble_eq_true rfl, Nat.le_of_ble_eq_true rfl⟩ ?_
        refine z_iadd d_Tb_currentShares_33 ?_
        refine z_topv (v := zsum (fun i => zbc (zset (zcur (V (400 + i)) (V (200 + i) 3)) 8)) (i + 1)) rfl ?_
        refine z_istore_n (L' := [(1, _), (2, _), (0, _)]) d_Tb_currentShares_34 rfl (by decide) rfl ?_
        skip
        refine z_iinc (v := nI (i + 1)) (L' := [(2, _), (1, _), (0, _)]) 1 d_Tb_currentShares_35 rfl (nI_1 i) (by decide) rfl ?_
        refine z_goto 4 d_Tb_currentShares_38 (by decide) ?_
        exact ih_4 (i + 1) (by omega) (by omega)
  exact key_4 (ns + 1) 0 (by omega) (by omega)
set_option maxHeartbeats 4000000 in
set_option maxRecDepth 100000 in
theorem m_Tb_staleSharesE {g0 : State} {d : zD} {l : Launch} {a0 : Array Value} (hs0 : zS0 d a0 g0) (hst : l.stackTraces = false) {G : zG} {A : Nat → Nat} {D : Nat → UInt64} {V : Nat → Nat → Int32} {nk ns : Nat} (hT : zT d A D V nk ns G) : zMet g0 d l y_Tb_staleShares c_Tb_staleShares 3 ((Option.some Jvm.ClassFile.FieldType.int)) 11 0 0 [.ref (A 0)] (G) (zEq (some (.int (zsum (fun i => zbc (zset (zstl (V (400 + i)) (V (200 + i) 3)) 8)) ns))) G) (zNo) := by
  have hG_Tb := hT.tb
  have hnk : nk ≤ 8 := hT.2.1
  have hns : ns ≤ 6 := hT.2.2.1
  refine z_entry hs0 hst (by decide) (Nat.le_of_ble_eq_true rfl) (fun p e s m args below meth c => ?_)
  refine z_iconst (v := (nI 0)) d_Tb_staleShares_0 (by decide) ?_
  refine z_istore_n (L' := [(1, _), (0, _)]) d_Tb_staleShares_1 rfl (by decide) rfl ?_
  refine z_iconst (v := (nI 0)) d_Tb_staleShares_2 (by decide) ?_
  refine z_istore_n (L' := [(2, _), (1, _), (0, _)]) d_Tb_staleShares_3 rfl (by decide) rfl ?_
  have key_4 : ∀ (n : Nat) (i : Nat), ns - i < n → (i ≤ ns) → Z g0 d y_Tb_staleShares c_Tb_staleShares 3 ((Option.some Jvm.ClassFile.FieldType.int)) [] p l e (zR 11 0 0) s m args below meth c (vx_MQ below (zQc g0 d (zEq (some (.int (zsum (fun i => zbc (zset (zstl (V (400 + i)) (V (200 + i) 3)) 8)) ns))) G)) (zXc g0 d (zNo)) args s 0 0 (zA g0)) 0 0 (G) [(2, .int (nI i)), (1, .int (zsum (fun i => zbc (zset (zstl (V (400 + i)) (V (200 + i) 3)) 8)) i)), (0, .ref (A 0))] [] 4 := by
    intro n
    induction n with
    | zero => intro i h0; exact absurd h0 (Nat.not_lt_zero _)
    | succ n ih_4 =>
      intro i hm_4 hi
      refine z_iload_n 0 d_Tb_staleShares_4 rfl rfl ?_
      refine z_aload_n 2 d_Tb_staleShares_5 rfl rfl ?_
      refine z_get zc_Tb 1 (by decide) qF_Tb_16 hG_Tb rfl d_Tb_staleShares_6 ?_
      refine z_callV0 (m_AL_size hs0 hst hT.sl) ym_AL_size qM_Tb_68 qI_AL_size qV_AL_AL_size zc_AL hT.sl d_Tb_staleShares_9 rfl (Nat.le_of_ble_eq_true rfl) ⟨Nat.zero_le _, Nat.zero_le _⟩ ⟨Nat.le_of_ble_eq_true rfl, Nat.le_of_ble_eq_true rfl⟩ ?_
      refine z_icmp_ge 41 d_Tb_staleShares_12 (by decide) (fun c_12 => ?_) (fun c_12 => ?_)
      · skip
        obtain rfl : ns = i := by
          have := (nI_leI (a := ns) (b := i) (by omega) (by omega)).mp c_12
          omega
        refine z_iload_n 1 d_Tb_staleShares_41 rfl rfl ?_
        exact z_iret rfl (⟨rfl, rfl⟩) (by first | decide | omega) (by first | decide | omega) d_Tb_staleShares_42
      · skip
        have hi6 : i < ns := Nat.lt_of_not_le fun q => c_12 (nI_le q (by omega))
        refine z_iload_n 1 d_Tb_staleShares_15 rfl rfl ?_
        refine z_aload_n 2 d_Tb_staleShares_16 rfl rfl ?_
        refine z_get zc_Tb 1 (by decide) qF_Tb_16 hG_Tb rfl d_Tb_staleShares_17 ?_
        refine z_iload_n 0 d_Tb_staleShares_20 rfl rfl ?_
        refine z_callV0 (m_AL_get hs0 hst (hT.sA hi6) hi6 (if_pos hi6)) ym_AL_get qM_Tb_166 qI_AL_get qV_AL_AL_get zc_AL (hT.sA hi6).1 d_Tb_staleShares_21 rfl (Nat.le_of_ble_eq_true rfl) ⟨Nat.zero_le _, Nat.zero_le _⟩ ⟨Nat.le_of_ble_eq_true rfl, Nat.le_of_ble_eq_true rfl⟩ ?_
        refine z_castS zc_Se qK_Tb_115 (hT.se hi6).1 d_Tb_staleShares_24 ?_
        refine z_callV0 (m_Se_staleSet hs0 hst (hT.se hi6)) ym_Se_staleSet qM_Tb_158 qI_Se_staleSet qV_Se_Se_staleSet zc_Se (hT.se hi6).1 d_Tb_staleShares_27 rfl (Nat.le_of_ble_eq_true rfl) ⟨Nat.zero_le _, Nat.zero_le _⟩ ⟨Nat.le_of_ble_eq_true rfl, Nat.le_of_ble_eq_true rfl⟩ ?_
        refine z_callS0 (m_In_bitCount hs0 hst _) ym_In_bitCount qM_Tb_105 qS_In_bitCount d_Tb_staleShares_30 rfl (Nat.le_of_ble_eq_true rfl) ⟨Nat.zero_le _, Nat.zero_le _⟩ ⟨Nat.le_of_ble_eq_true rfl, Nat.le_of_ble_eq_true rfl⟩ ?_
        refine z_iadd d_Tb_staleShares_33 ?_
        refine z_topv (v := zsum (fun i => zbc (zset (zstl (V (400 + i)) (V (200 + i) 3)) 8)) (i + 1)) rfl ?_
        refine z_istore_n (L' := [(1, _), (2, _), (0, _)]) d_Tb_staleShares_34 rfl (by decide) rfl ?_
        skip
        refine z_iinc (v := nI (i + 1)) (L' := [(2, _), (1, _), (0, _)]) 1 d_Tb_staleShares_35 rfl (nI_1 i) (by decide) rfl ?_
        refine z_goto 4 d_Tb_staleShares_38 (by decide) ?_
        exact ih_4 (i + 1) (by omega) (by omega)
  exact key_4 (ns + 1) 0 (by omega) (by omega)
set_option maxHeartbeats 4000000 in
set_option maxRecDepth 100000 in
theorem m_Tb_tellOfBankE {g0 : State} {d : zD} {l : Launch} {a0 : Array Value} (hs0 : zS0 d a0 g0) (hst : l.stackTraces = false) {G : zG} {A : Nat → Nat} {D : Nat → UInt64} {V : Nat → Nat → Int32} {nk ns : Nat} (hT : zT d A D V nk ns G) (w : Int32) : zMet g0 d l y_Tb_tellOfBank c_Tb_tellOfBank 2 ((Option.some Jvm.ClassFile.FieldType.int)) 12 0 0 [.ref (A 0), .int w] (G) (zEq (some (.int (qBk V nk ns w))) G) (zNo) := by
  have hG_Tb := hT.tb
  have hnk : nk ≤ 8 := hT.2.1
  have hns : ns ≤ 6 := hT.2.2.1
  refine z_entry hs0 hst (by decide) (Nat.le_of_ble_eq_true rfl) (fun p e s m args below meth c => ?_)
  refine z_iload_n 1 d_Tb_tellOfBank_0 rfl rfl ?_
  by_cases e0 : w = 0
  · subst e0
    refine z_tableIn 60 d_Tb_tellOfBank_1 (by decide) (by decide) rfl (by decide) ?_
    refine z_aload_n 0 d_Tb_tellOfBank_60 rfl rfl ?_
    refine z_get zc_Tb 0 (by decide) qF_Tb_10 hG_Tb rfl d_Tb_tellOfBank_61 ?_
    refine z_callV0 (m_AL_size hs0 hst hT.kl) ym_AL_size qM_Tb_68 qI_AL_size qV_AL_AL_size zc_AL hT.kl d_Tb_tellOfBank_64 rfl (Nat.le_of_ble_eq_true rfl) ⟨Nat.zero_le _, Nat.zero_le _⟩ ⟨Nat.le_of_ble_eq_true rfl, Nat.le_of_ble_eq_true rfl⟩ ?_
    exact z_iret rfl (⟨by unfold qBk; rw [if_pos rfl], rfl⟩) (by first | decide | omega) (by first | decide | omega) d_Tb_tellOfBank_67
  by_cases e1 : w = 1
  · subst e1
    refine z_tableIn 68 d_Tb_tellOfBank_1 (by decide) (by decide) rfl (by decide) ?_
    refine z_aload_n 0 d_Tb_tellOfBank_68 rfl rfl ?_
    refine z_get zc_Tb 1 (by decide) qF_Tb_16 hG_Tb rfl d_Tb_tellOfBank_69 ?_
    refine z_callV0 (m_AL_size hs0 hst hT.sl) ym_AL_size qM_Tb_68 qI_AL_size qV_AL_AL_size zc_AL hT.sl d_Tb_tellOfBank_72 rfl (Nat.le_of_ble_eq_true rfl) ⟨Nat.zero_le _, Nat.zero_le _⟩ ⟨Nat.le_of_ble_eq_true rfl, Nat.le_of_ble_eq_true rfl⟩ ?_
    exact z_iret rfl (⟨by unfold qBk; rw [if_neg (by decide), if_pos rfl], rfl⟩) (by first | decide | omega) (by first | decide | omega) d_Tb_tellOfBank_75
  by_cases e2 : w = 2
  · subst e2
    refine z_tableIn 76 d_Tb_tellOfBank_1 (by decide) (by decide) rfl (by decide) ?_
    refine z_aload_n 0 d_Tb_tellOfBank_76 rfl rfl ?_
    refine z_get zc_Tb 6 (by decide) qF_Tb_44 hG_Tb rfl d_Tb_tellOfBank_77 ?_
    exact z_iret rfl (⟨by unfold qBk; rw [if_neg (by decide), if_neg (by decide), if_pos rfl], rfl⟩) (by first | decide | omega) (by first | decide | omega) d_Tb_tellOfBank_80
  by_cases e3 : w = 3
  · subst e3
    refine z_tableIn 81 d_Tb_tellOfBank_1 (by decide) (by decide) rfl (by decide) ?_
    refine z_aload_n 0 d_Tb_tellOfBank_81 rfl rfl ?_
    refine z_get zc_Tb 3 (by decide) qF_Tb_29 hG_Tb rfl d_Tb_tellOfBank_82 ?_
    refine z_get zc_Cu 1 (by decide) qF_Tb_398 hT.cu rfl d_Tb_tellOfBank_85 ?_
    exact z_iret rfl (⟨by unfold qBk; rw [if_neg (by decide), if_neg (by decide), if_neg (by decide), if_pos rfl], rfl⟩) (by first | decide | omega) (by first | decide | omega) d_Tb_tellOfBank_88
  by_cases e4 : w = 4
  · subst e4
    refine z_tableIn 89 d_Tb_tellOfBank_1 (by decide) (by decide) rfl (by decide) ?_
    refine z_aload_n 0 d_Tb_tellOfBank_89 rfl rfl ?_
    refine z_get zc_Tb 2 (by decide) qF_Tb_22 hG_Tb rfl d_Tb_tellOfBank_90 ?_
    refine z_callV0 (m_Re_size hs0 hst hT.re) ym_Re_size qM_Tb_322 qI_Re_size qV_Re_Re_size zc_Re hT.re d_Tb_tellOfBank_93 rfl (Nat.le_of_ble_eq_true rfl) ⟨Nat.zero_le _, Nat.zero_le _⟩ ⟨Nat.le_of_ble_eq_true rfl, Nat.le_of_ble_eq_true rfl⟩ ?_
    exact z_iret rfl (⟨by unfold qBk; rw [if_neg (by decide), if_neg (by decide), if_neg (by decide), if_neg (by decide), if_pos rfl], rfl⟩) (by first | decide | omega) (by first | decide | omega) d_Tb_tellOfBank_96
  by_cases e5 : w = 5
  · subst e5
    refine z_tableIn 97 d_Tb_tellOfBank_1 (by decide) (by decide) rfl (by decide) ?_
    refine z_aload_n 0 d_Tb_tellOfBank_97 rfl rfl ?_
    refine z_get zc_Tb 2 (by decide) qF_Tb_22 hG_Tb rfl d_Tb_tellOfBank_98 ?_
    refine z_callV0 (m_Re_root hs0 hst hT.re (hT.1.2 9 (tl_s 9))) ym_Re_root qM_Tb_401 qI_Re_root qV_Re_Re_root zc_Re hT.re d_Tb_tellOfBank_101 rfl (Nat.le_of_ble_eq_true rfl) ⟨Nat.zero_le _, Nat.zero_le _⟩ ⟨Nat.le_of_ble_eq_true rfl, Nat.le_of_ble_eq_true rfl⟩ ?_
    exact z_iret rfl (⟨by unfold qBk; rw [if_neg (by decide), if_neg (by decide), if_neg (by decide), if_neg (by decide), if_neg (by decide), if_pos rfl], rfl⟩) (by first | decide | omega) (by first | decide | omega) d_Tb_tellOfBank_104
  by_cases e6 : w = 6
  · subst e6
    refine z_tableIn 105 d_Tb_tellOfBank_1 (by decide) (by decide) rfl (by decide) ?_
    refine z_aload_n 0 d_Tb_tellOfBank_105 rfl rfl ?_
    refine z_get zc_Tb 7 (by decide) qF_Tb_48 hG_Tb rfl d_Tb_tellOfBank_106 ?_
    exact z_iret rfl (⟨by unfold qBk; rw [if_neg (by decide), if_neg (by decide), if_neg (by decide), if_neg (by decide), if_neg (by decide), if_neg (by decide), if_pos rfl], rfl⟩) (by first | decide | omega) (by first | decide | omega) d_Tb_tellOfBank_109
  by_cases e7 : w = 7
  · subst e7
    refine z_tableIn 110 d_Tb_tellOfBank_1 (by decide) (by decide) rfl (by decide) ?_
    refine z_aload_n 0 d_Tb_tellOfBank_110 rfl rfl ?_
    refine z_get zc_Tb 8 (by decide) qF_Tb_51 hG_Tb rfl d_Tb_tellOfBank_111 ?_
    exact z_iret rfl (⟨by unfold qBk; rw [if_neg (by decide), if_neg (by decide), if_neg (by decide), if_neg (by decide), if_neg (by decide), if_neg (by decide), if_neg (by decide), if_pos rfl], rfl⟩) (by first | decide | omega) (by first | decide | omega) d_Tb_tellOfBank_114
  by_cases e8 : w = 8
  · subst e8
    refine z_tableIn 115 d_Tb_tellOfBank_1 (by decide) (by decide) rfl (by decide) ?_
    refine z_aload_n 0 d_Tb_tellOfBank_115 rfl rfl ?_
    refine z_get zc_Tb 9 (by decide) qF_Tb_54 hG_Tb rfl d_Tb_tellOfBank_116 ?_
    exact z_iret rfl (⟨by unfold qBk; rw [if_neg (by decide), if_neg (by decide), if_neg (by decide), if_neg (by decide), if_neg (by decide), if_neg (by decide), if_neg (by decide), if_neg (by decide), if_pos rfl], rfl⟩) (by first | decide | omega) (by first | decide | omega) d_Tb_tellOfBank_119
  by_cases e9 : w = 9
  · subst e9
    refine z_tableIn 120 d_Tb_tellOfBank_1 (by decide) (by decide) rfl (by decide) ?_
    refine z_aload_n 0 d_Tb_tellOfBank_120 rfl rfl ?_
    refine z_callV0 ((m_Tb_notedKeepersE hs0 hst hT)) ym_Tb_notedKeepers qM_Tb_404 qI_Tb_notedKeepers qV_Tb_Tb_notedKeepers zc_Tb hG_Tb d_Tb_tellOfBank_121 rfl (Nat.le_of_ble_eq_true rfl) ⟨Nat.zero_le _, Nat.zero_le _⟩ ⟨Nat.le_of_ble_eq_true rfl, Nat.le_of_ble_eq_true rfl⟩ ?_
    exact z_iret rfl (⟨by unfold qBk; rw [if_neg (by decide), if_neg (by decide), if_neg (by decide), if_neg (by decide), if_neg (by decide), if_neg (by decide), if_neg (by decide), if_neg (by decide), if_neg (by decide), if_pos rfl], rfl⟩) (by first | decide | omega) (by first | decide | omega) d_Tb_tellOfBank_124
  by_cases e10 : w = 10
  · subst e10
    refine z_tableIn 125 d_Tb_tellOfBank_1 (by decide) (by decide) rfl (by decide) ?_
    refine z_aload_n 0 d_Tb_tellOfBank_125 rfl rfl ?_
    refine z_callV0 ((m_Tb_currentSharesE hs0 hst hT)) ym_Tb_currentShares qM_Tb_407 qI_Tb_currentShares qV_Tb_Tb_currentShares zc_Tb hG_Tb d_Tb_tellOfBank_126 rfl (Nat.le_of_ble_eq_true rfl) ⟨Nat.zero_le _, Nat.zero_le _⟩ ⟨Nat.le_of_ble_eq_true rfl, Nat.le_of_ble_eq_true rfl⟩ ?_
    exact z_iret rfl (⟨by unfold qBk; rw [if_neg (by decide), if_neg (by decide), if_neg (by decide), if_neg (by decide), if_neg (by decide), if_neg (by decide), if_neg (by decide), if_neg (by decide), if_neg (by decide), if_neg (by decide), if_pos rfl], rfl⟩) (by first | decide | omega) (by first | decide | omega) d_Tb_tellOfBank_129
  have ed : w.toInt < 0 ∨ 10 < w.toInt := by
    simp only [← Int32.toInt_inj, Int32.reduceToInt] at e0 e1 e2 e3 e4 e5 e6 e7 e8 e9 e10
    omega
  · skip
    refine z_tableOut 130 d_Tb_tellOfBank_1 (ed) (by decide) ?_
    refine z_aload_n 0 d_Tb_tellOfBank_130 rfl rfl ?_
    refine z_callV0 ((m_Tb_staleSharesE hs0 hst hT)) ym_Tb_staleShares qM_Tb_410 qI_Tb_staleShares qV_Tb_Tb_staleShares zc_Tb hG_Tb d_Tb_tellOfBank_131 rfl (Nat.le_of_ble_eq_true rfl) ⟨Nat.zero_le _, Nat.zero_le _⟩ ⟨Nat.le_of_ble_eq_true rfl, Nat.le_of_ble_eq_true rfl⟩ ?_
    exact z_iret rfl (⟨by unfold qBk; rw [if_neg (fun e => by subst e; revert ed; decide), if_neg (fun e => by subst e; revert ed; decide), if_neg (fun e => by subst e; revert ed; decide), if_neg (fun e => by subst e; revert ed; decide), if_neg (fun e => by subst e; revert ed; decide), if_neg (fun e => by subst e; revert ed; decide), if_neg (fun e => by subst e; revert ed; decide), if_neg (fun e => by subst e; revert ed; decide), if_neg (fun e => by subst e; revert ed; decide), if_neg (fun e => by subst e; revert ed; decide), if_neg (fun e => by subst e; revert ed; decide)], rfl⟩) (by first | decide | omega) (by first | decide | omega) d_Tb_tellOfBank_134
set_option maxHeartbeats 4000000 in
set_option maxRecDepth 100000 in
theorem m_Tb_bankE {g0 : State} {d : zD} {l : Launch} {a0 : Array Value} (hs0 : zS0 d a0 g0) (hst : l.stackTraces = false) {G : zG} {A : Nat → Nat} {D : Nat → UInt64} {V : Nat → Nat → Int32} {nk ns : Nat} (hT : zT d A D V nk ns G) (w : Int32) : zMet g0 d l y_Tb_bank c_Tb_bank 2 ((Option.some Jvm.ClassFile.FieldType.int)) 13 1 6 [.ref (A 0), .int w] (G) (zTu d A nk ns V G (fun r => ∃ v, r = some (.int v) ∧ tBk V nk ns w v)) (zXo d A nk ns V G (fun E => zin w 0 11 = false ∧ E = "java/lang/IllegalArgumentException")) := by
  have hG_Tb := hT.tb
  have hnk : nk ≤ 8 := hT.2.1
  have hns : ns ≤ 6 := hT.2.2.1
  refine z_entry hs0 hst (by decide) (Nat.le_of_ble_eq_true rfl) (fun p e s m args below meth c => ?_)
  refine z_iload_n 1 d_Tb_bank_0 rfl rfl ?_
  refine z_iconst (v := 0) d_Tb_bank_1 (by decide) ?_
  refine z_bipush (v := 11) d_Tb_bank_2 (by decide) ?_
  refine z_callS0 (m_Tb_isFrom hs0 hst w 0 _) ym_Tb_isFrom qM_Tb_57 qS_Tb_isFrom d_Tb_bank_4 rfl (Nat.le_of_ble_eq_true rfl) ⟨by decide, by decide⟩ ⟨Nat.le_of_ble_eq_true rfl, Nat.le_of_ble_eq_true rfl⟩ ?_
  refine z_if_ne 20 d_Tb_bank_7 (by decide) (fun c_7 => ?_) (fun c_7 => ?_)
  · skip
    refine z_aload_n 0 d_Tb_bank_20 rfl rfl ?_
    refine z_iload_n 1 d_Tb_bank_21 rfl rfl ?_
    refine z_callV0 ((m_Tb_tellOfBankE hs0 hst hT w)) ym_Tb_tellOfBank qM_Tb_250 qI_Tb_tellOfBank qV_Tb_Tb_tellOfBank zc_Tb hG_Tb d_Tb_bank_22 rfl (Nat.le_of_ble_eq_true rfl) ⟨by decide, by decide⟩ ⟨Nat.le_of_ble_eq_true rfl, Nat.le_of_ble_eq_true rfl⟩ ?_
    exact z_iret rfl (⟨⟨_, rfl, (zb_n0 _).mp c_7, rfl⟩, D, V, hT, zKo.rf, zFr.rf⟩) (by first | decide | omega) (by first | decide | omega) d_Tb_bank_25
  · skip
    exact z_thS (names := ["java/lang/RuntimeException", "java/lang/Exception"]) (by decide) (by decide) qK_Tb_61 qN_IAE qR_Tb_248 th_65.1 th_65.2 d_Tb_bank_10 d_Tb_bank_13 d_Tb_bank_14 d_Tb_bank_16 d_Tb_bank_19 (by decide) (Nat.le_of_ble_eq_true rfl) ⟨by decide, by decide⟩ (⟨⟨(zb_0 _).mp c_7, rfl⟩, D, V, hT, zKo.rf, zFr.rf⟩) (by decide) (by decide)
