
/-! what is asked, exactly: the class's answer by T, what is thrown by P; the reference's by T -/
def cAs (V : Nat → Nat → Int32) (T P : Int32 → Prop) (kk : Int32) (V' : Nat → Nat → Int32) (v : Int32) : Prop := zKo V V' ∧ ((kk = 0 ∧ T v) ∨ (kk ≠ 0 ∧ P kk))
def mAq (d : zD) (B : Nat → Nat) (nk ns ne ec : Nat) (V : Nat → Nat → Int32) (G : zG) (T : Int32 → Int32 → (Nat → Nat → Int32) → Prop) : Option Value → zG → Prop := fun r G1 => ∃ (v : Int32) (W' : Nat → Nat → Int32), r = some (.int v) ∧ T (W' 0 0) v W' ∧ zM d B W' nk ns ne ec G1 ∧ zKn V W' ∧ mFr B nk ns ne G G1

/-- what is told of the bank: class, reference -/
def qBk (V : Nat → Nat → Int32) (nk ns : Nat) (w : Int32) : Int32 := if w = 0 then nI nk else if w = 1 then nI ns else if w = 2 then V 0 0 else if w = 3 then V 10 0 else if w = 4 then V 5 0 else if w = 5 then zrd 128 (V 9) 0 1 else if w = 6 then V 0 1 else if w = 7 then V 0 2 else if w = 8 then V 0 3 else if w = 9 then nI (zcnt (fun k => decide (V (100 + k) 5 ≠ 0)) nk) else if w = 10 then zsum (fun i => zbc (zset (zcur (V (400 + i)) (V (200 + i) 3)) 8)) ns else zsum (fun i => zbc (zset (zstl (V (400 + i)) (V (200 + i) 3)) 8)) ns
def tBk (V : Nat → Nat → Int32) (nk ns : Nat) (w v : Int32) : Prop := zin w 0 11 = true ∧ v = qBk V nk ns w
def pBk (w kk : Int32) : Prop := zin w 0 11 = false ∧ kk = 1

set_option maxHeartbeats 4000000 in
set_option maxRecDepth 100000 in
theorem m_Tb_notedKeepersE {g0 : State} {d : zD} {l : Launch} {a0 : Array Value} (hs0 : zS0 d a0 g0) (hst : l.stackTraces = false) {G : zG} {A : Nat → Nat} {D : Nat → UInt64} {V : Nat → Nat → Int32} {nk ns : Nat} (hT : zT d A D V nk ns G) : zMet g0 d l y_Tb_notedKeepers c_Tb_notedKeepers 3 ((Option.some Jvm.ClassFile.FieldType.int)) 11 0 0 [.ref (A 0)] (G) (zEq (some (.int (nI (zcnt (fun k => decide (V (100 + k) 5 ≠ 0)) nk)))) G) (zNo) := by
  have hG_Tb := hT.tb
  have hnk : nk ≤ 8 := hT.2.1
  have hns : ns ≤ 6 := hT.2.2.1
  refine z_entry hs0 hst (by decide) (Nat.le_of_ble_eq_true rfl) (fun p e s m args below meth c => ?_)
  refine z_iconst (v := (nI 0)) d_Tb_notedKeepers_0 (by decide) ?_
  refine z_istore_n (L' := [(1, _), (0, _)]) d_Tb_notedKeepers_1 rfl (by decide) rfl ?_
  refine z_iconst (v := (nI 0)) d_Tb_notedKeepers_2 (by decide) ?_
  refine z_istore_n (L' := [(2, _), (1, _), (0, _)]) d_Tb_notedKeepers_3 rfl (by decide) rfl ?_
  have key_4 : ∀ (n : Nat) (i : Nat), nk - i < n → (i ≤ nk) → Z g0 d y_Tb_notedKeepers c_Tb_notedKeepers 3 ((Option.some Jvm.ClassFile.FieldType.int)) [] p l e (zR 11 0 0) s m args below meth c (vx_MQ below (zQc g0 d (zEq (some (.int (nI (zcnt (fun k => decide (V (100 + k) 5 ≠ 0)) nk)))) G)) (zXc g0 d (zNo)) args s 0 0 (zA g0)) 0 0 (G) [(2, .int (nI i)), (1, .int (nI (zcnt (fun k => decide (V (100 + k) 5 ≠ 0)) i))), (0, .ref (A 0))] [] 4 := by
    intro n
    induction n with
    | zero => intro i h0; exact absurd h0 (Nat.not_lt_zero _)
    | succ n ih_4 =>
      intro i hm_4 hi
      refine z_iload_n 0 d_Tb_notedKeepers_4 rfl rfl ?_
      refine z_aload_n 2 d_Tb_notedKeepers_5 rfl rfl ?_
      refine z_get zc_Tb 0 (by decide) qF_Tb_10 hG_Tb rfl d_Tb_notedKeepers_6 ?_
      refine z_callV0 (m_AL_size hs0 hst hT.kl) ym_AL_size qM_Tb_68 qI_AL_size qV_AL_AL_size zc_AL hT.kl d_Tb_notedKeepers_9 rfl (Nat.le_of_ble_eq_true rfl) ⟨Nat.zero_le _, Nat.zero_le _⟩ ⟨Nat.le_of_ble_eq_true rfl, Nat.le_of_ble_eq_true rfl⟩ ?_
      refine z_icmp_ge 41 d_Tb_notedKeepers_12 (by decide) (fun c_12 => ?_) (fun c_12 => ?_)
      · skip
        obtain rfl : nk = i := by
          have := (nI_leI (a := nk) (b := i) (by omega) (by omega)).mp c_12
          omega
        refine z_iload_n 1 d_Tb_notedKeepers_41 rfl rfl ?_
        exact z_iret rfl (⟨rfl, rfl⟩) (by first | decide | omega) (by first | decide | omega) d_Tb_notedKeepers_42
      · skip
        have hi6 : i < nk := Nat.lt_of_not_le fun q => c_12 (nI_le q (by omega))
        refine z_aload_n 2 d_Tb_notedKeepers_15 rfl rfl ?_
        refine z_get zc_Tb 0 (by decide) qF_Tb_10 hG_Tb rfl d_Tb_notedKeepers_16 ?_
        refine z_iload_n 0 d_Tb_notedKeepers_19 rfl rfl ?_
        refine z_callV0 (m_AL_get hs0 hst (hT.kA hi6) hi6 (if_pos hi6)) ym_AL_get qM_Tb_166 qI_AL_get qV_AL_AL_get zc_AL (hT.kA hi6).1 d_Tb_notedKeepers_20 rfl (Nat.le_of_ble_eq_true rfl) ⟨Nat.zero_le _, Nat.zero_le _⟩ ⟨Nat.le_of_ble_eq_true rfl, Nat.le_of_ble_eq_true rfl⟩ ?_
        refine z_castS zc_Ke qK_Tb_77 (hT.ke hi6) d_Tb_notedKeepers_23 ?_
        refine z_get zc_Ke 5 (by decide) qF_Tb_348 (hT.ke hi6) rfl d_Tb_notedKeepers_26 ?_
        refine z_if_eq 35 d_Tb_notedKeepers_29 (by decide) (fun c_29 => ?_) (fun c_29 => ?_)
        · skip
          rw [← zcnt_skip (f := (fun k => decide (V (100 + k) 5 ≠ 0))) (decide_eq_false (p := V (100 + i) 5 ≠ 0) (fun q => q c_29))]
          refine z_iinc (v := nI (i + 1)) (L' := [(2, _), (1, _), (0, _)]) 0 d_Tb_notedKeepers_35 rfl (nI_1 i) (by decide) rfl ?_
          refine z_goto 4 d_Tb_notedKeepers_38 (by decide) ?_
          exact ih_4 (i + 1) (by omega) (by omega)
        · skip
          refine z_iinc (v := nI (zcnt (fun k => decide (V (100 + k) 5 ≠ 0)) (i + 1))) (L' := [(1, _), (2, _), (0, _)]) 1 d_Tb_notedKeepers_32 rfl (by rw [zcnt_step (f := (fun k => decide (V (100 + k) 5 ≠ 0))) (decide_eq_true (p := V (100 + i) 5 ≠ 0) c_29)]; exact nI_1 _) (by decide) rfl ?_
          refine z_iinc (v := nI (i + 1)) (L' := [(2, _), (1, _), (0, _)]) 1 d_Tb_notedKeepers_35 rfl (nI_1 i) (by decide) rfl ?_
          refine z_goto 4 d_Tb_notedKeepers_38 (by decide) ?_
          exact ih_4 (i + 1) (by omega) (by omega)
  exact key_4 (nk + 1) 0 (by omega) (by omega)
set_option maxHeartbeats 4000000 in
set_option maxRecDepth 100000 in
theorem m_Tb_currentSharesE {g0 : State} {d : zD} {l : Launch} {a0 : Array Value} (hs0 : zS0 d a0 g0) (hst : l.stackTraces = false) {G : zG} {A : Nat → Nat} {D : Nat → UInt64} {V : Nat → Nat → Int32} {nk ns : Nat} (hT : zT d A D V nk ns G) : zMet g0 d l y_Tb_currentShares c_Tb_currentShares 3 ((Option.some Jvm.ClassFile.FieldType.int)) 11 0 0 [.ref (A 0)] (G) (zEq (some (.int (zsum (fun i => zbc (zset (zcur (V (400 + i)) (V (200 + i) 3)) 8)) ns))) G) (zNo) := by
  have hG_Tb := hT.tb
  have hnk : nk ≤ 8 := hT.2.1
  have hns : ns ≤ 6 := hT.2.2.1
  refine z_entry hs0 hst (by decide) (Nat.le_of_ble_eq_true rfl) (fun p e s m args below meth c => ?_)
  refine z_iconst (v := (nI 0)) d_Tb_currentShares_0 (by decide) ?_
  refine z_istore_n (L' := [(1, _), (0, _)]) d_Tb_currentShares_1 rfl (by decide) rfl ?_
  refine z_iconst (v := (nI 0)) d_Tb_currentShares_2 (by decide) ?_
  refine z_istore_n (L' := [(2, _), (1, _), (0, _)]) d_Tb_currentShares_3 rfl (by decide) rfl ?_
  have key_4 : ∀ (n : Nat) (i : Nat), ns - i < n → (i ≤ ns) → Z g0 d y_Tb_currentShares c_Tb_currentShares 3 ((Option.some Jvm.ClassFile.FieldType.int)) [] p l e (zR 11 0 0) s m args below meth c (vx_MQ below (zQc g0 d (zEq (some (.int (zsum (fun i => zbc (zset (zcur (V (400 + i)) (V (200 + i) 3)) 8)) ns))) G)) (zXc g0 d (zNo)) args s 0 0 (zA g0)) 0 0 (G) [(2, .int (nI i)), (1, .int (zsum (fun i => zbc (zset (zcur (V (400 + i)) (V (200 + i) 3)) 8)) i)), (0, .ref (A 0))] [] 4 := by
    intro n
    induction n with
    | zero => intro i h0; exact absurd h0 (Nat.not_lt_zero _)
    | succ n ih_4 =>
      intro i hm_4 hi
      refine z_iload_n 0 d_Tb_currentShares_4 rfl rfl ?_
      refine z_aload_n 2 d_Tb_currentShares_5 rfl rfl ?_
      refine z_get zc_Tb 1 (by decide) qF_Tb_16 hG_Tb rfl d_Tb_currentShares_6 ?_
      refine z_callV0 (m_AL_size hs0 hst hT.sl) ym_AL_size qM_Tb_68 qI_AL_size qV_AL_AL_size zc_AL hT.sl d_Tb_currentShares_9 rfl (Nat.le_of_ble_eq_true rfl) ⟨Nat.zero_le _, Nat.zero_le _⟩ ⟨Nat.le_of_ble_eq_true rfl, Nat.le_of_ble_eq_true rfl⟩ ?_
      refine z_icmp_ge 41 d_Tb_currentShares_12 (by decide) (fun c_12 => ?_) (fun c_12 => ?_)
      · skip
        obtain rfl : ns = i := by
          have := (nI_leI (a := ns) (b := i) (by omega) (by omega)).mp c_12
          omega
        refine z_iload_n 1 d_Tb_currentShares_41 rfl rfl ?_
        exact z_iret rfl (⟨rfl, rfl⟩) (by first | decide | omega) (by first | decide | omega) d_Tb_currentShares_42
      · skip
        have hi6 : i < ns := Nat.lt_of_not_le fun q => c_12 (nI_le q (by omega))
        refine z_iload_n 1 d_Tb_currentShares_15 rfl rfl ?_
        refine z_aload_n 2 d_Tb_currentShares_16 rfl rfl ?_
        refine z_get zc_Tb 1 (by decide) qF_Tb_16 hG_Tb rfl d_Tb_currentShares_17 ?_
        refine z_iload_n 0 d_Tb_currentShares_20 rfl rfl ?_
        refine z_callV0 (m_AL_get hs0 hst (hT.sA hi6) hi6 (if_pos hi6)) ym_AL_get qM_Tb_166 qI_AL_get qV_AL_AL_get zc_AL (hT.sA hi6).1 d_Tb_currentShares_21 rfl (Nat.le_of_ble_eq_true rfl) ⟨Nat.zero_le _, Nat.zero_le _⟩ ⟨Nat.le_of_ble_eq_true rfl, Nat.le_of_ble_eq_true rfl⟩ ?_
        refine z_castS zc_Se qK_Tb_115 (hT.se hi6).1 d_Tb_currentShares_24 ?_
        refine z_callV0 (m_Se_currentSet hs0 hst (hT.se hi6)) ym_Se_currentSet qM_Tb_144 qI_Se_currentSet qV_Se_Se_currentSet zc_Se (hT.se hi6).1 d_Tb_currentShares_27 rfl (Nat.le_of_ble_eq_true rfl) ⟨Nat.zero_le _, Nat.zero_le _⟩ ⟨Nat.le_of_ble_eq_true rfl, Nat.le_of_ble_eq_true rfl⟩ ?_
        refine z_callS0 (m_In_bitCount hs0 hst _) ym_In_bitCount qM_Tb_105 qS_In_bitCount d_Tb_currentShares_30 rfl (Nat.le_of_ble_eq_true rfl) ⟨Nat.zero_le _, Nat.zero_le _⟩ ⟨Nat.le_of_ble_eq_true rfl, Nat.le_of_ble_eq_true rfl⟩ ?_
        refine z_iadd d_Tb_currentShares_33 ?_
        refine z_topv (v := zsum (fun i => zbc (zset (zcur (V (400 + i)) (V (200 + i) 3)) 8)) (i + 1)) rfl ?_
        refine z_istore_n (L' := [(1, _), (2, _), (0, _)]) d_Tb_currentShares_34 rfl (by decide) rfl ?_
        skip
        refine z_iinc (v := nI (i + 1)) (L' := [(2, _), (1, _), (0, _)]) 1 d_Tb_currentShares_35 rfl (nI_1 i) (by decide) rfl ?_
        refine z_goto 4 d_Tb_currentShares_38 (by decide) ?_
        exact ih_4 (i + 1) (by omega) (by omega)
  exact key_4 (ns + 1) 0 (by omega) (by omega)
set_option maxHeartbeats 4000000 in
set_option maxRecDepth 100000 in
theorem m_Tb_staleSharesE {g0 : State} {d : zD} {l : Launch} {a0 : Array Value} (hs0 : zS0 d a0 g0) (hst : l.stackTraces = false) {G : zG} {A : Nat → Nat} {D : Nat → UInt64} {V : Nat → Nat → Int32} {nk ns : Nat} (hT : zT d A D V nk ns G) : zMet g0 d l y_Tb_staleShares c_Tb_staleShares 3 ((Option.some Jvm.ClassFile.FieldType.int)) 11 0 0 [.ref (A 0)] (G) (zEq (some (.int (zsum (fun i => zbc (zset (zstl (V (400 + i)) (V (200 + i) 3)) 8)) ns))) G) (zNo) := by
  have hG_Tb := hT.tb
  have hnk : nk ≤ 8 := hT.2.1
  have hns : ns ≤ 6 := hT.2.2.1
  refine z_entry hs0 hst (by decide) (Nat.le_of_ble_eq_true rfl) (fun p e s m args below meth c => ?_)
  refine z_iconst (v := (nI 0)) d_Tb_staleShares_0 (by decide) ?_
  refine z_istore_n (L' := [(1, _), (0, _)]) d_Tb_staleShares_1 rfl (by decide) rfl ?_
  refine z_iconst (v := (nI 0)) d_Tb_staleShares_2 (by decide) ?_
  refine z_istore_n (L' := [(2, _), (1, _), (0, _)]) d_Tb_staleShares_3 rfl (by decide) rfl ?_
  have key_4 : ∀ (n : Nat) (i : Nat), ns - i < n → (i ≤ ns) → Z g0 d y_Tb_staleShares c_Tb_staleShares 3 ((Option.some Jvm.ClassFile.FieldType.int)) [] p l e (zR 11 0 0) s m args below meth c (vx_MQ below (zQc g0 d (zEq (some (.int (zsum (fun i => zbc (zset (zstl (V (400 + i)) (V (200 + i) 3)) 8)) ns))) G)) (zXc g0 d (zNo)) args s 0 0 (zA g0)) 0 0 (G) [(2, .int (nI i)), (1, .int (zsum (fun i => zbc (zset (zstl (V (400 + i)) (V (200 + i) 3)) 8)) i)), (0, .ref (A 0))] [] 4 := by
    intro n
    induction n with
    | zero => intro i h0; exact absurd h0 (Nat.not_lt_zero _)
    | succ n ih_4 =>
      intro i hm_4 hi
      refine z_iload_n 0 d_Tb_staleShares_4 rfl rfl ?_
      refine z_aload_n 2 d_Tb_staleShares_5 rfl rfl ?_
      refine z_get zc_Tb 1 (by decide) qF_Tb_16 hG_Tb rfl d_Tb_staleShares_6 ?_
      refine z_callV0 (m_AL_size hs0 hst hT.sl) ym_AL_size qM_Tb_68 qI_AL_size qV_AL_AL_size zc_AL hT.sl d_Tb_staleShares_9 rfl (Nat.le_of_ble_eq_true rfl) ⟨Nat.zero_le _, Nat.zero_le _⟩ ⟨Nat.le_of_ble_eq_true rfl, Nat.le_of_ble_eq_true rfl⟩ ?_
      refine z_icmp_ge 41 d_Tb_staleShares_12 (by decide) (fun c_12 => ?_) (fun c_12 => ?_)
      · skip
        obtain rfl : ns = i := by
          have := (nI_leI (a := ns) (b := i) (by omega) (by omega)).mp c_12
          omega
        refine z_iload_n 1 d_Tb_staleShares_41 rfl rfl ?_
        exact z_iret rfl (⟨rfl, rfl⟩) (by first | decide | omega) (by first | decide | omega) d_Tb_staleShares_42
      · skip
        have hi6 : i < ns := Nat.lt_of_not_le fun q => c_12 (nI_le q (by omega))
        refine z_iload_n 1 d_Tb_staleShares_15 rfl rfl ?_
        refine z_aload_n 2 d_Tb_staleShares_16 rfl rfl ?_
        refine z_get zc_Tb 1 (by decide) qF_Tb_16 hG_Tb rfl d_Tb_staleShares_17 ?_
        refine z_iload_n 0 d_Tb_staleShares_20 rfl rfl ?_
        refine z_callV0 (m_AL_get hs0 hst (hT.sA hi6) hi6 (if_pos hi6)) ym_AL_get qM_Tb_166 qI_AL_get qV_AL_AL_get zc_AL (hT.sA hi6).1 d_Tb_staleShares_21 rfl (Nat.le_of_ble_eq_true rfl) ⟨Nat.zero_le _, Nat.zero_le _⟩ ⟨Nat.le_of_ble_eq_true rfl, Nat.le_of_ble_eq_true rfl⟩ ?_
        refine z_castS zc_Se qK_Tb_115 (hT.se hi6).1 d_Tb_staleShares_24 ?_
        refine z_callV0 (m_Se_staleSet hs0 hst (hT.se hi6)) ym_Se_staleSet qM_Tb_158 qI_Se_staleSet qV_Se_Se_staleSet zc_Se (hT.se hi6).1 d_Tb_staleShares_27 rfl (Nat.le_of_ble_eq_true rfl) ⟨Nat.zero_le _, Nat.zero_le _⟩ ⟨Nat.le_of_ble_eq_true rfl, Nat.le_of_ble_eq_true rfl⟩ ?_
        refine z_callS0 (m_In_bitCount hs0 hst _) ym_In_bitCount qM_Tb_105 qS_In_bitCount d_Tb_staleShares_30 rfl (Nat.le_of_ble_eq_true rfl) ⟨Nat.zero_le _, Nat.zero_le _⟩ ⟨Nat.le_of_ble_eq_true rfl, Nat.le_of_ble_eq_true rfl⟩ ?_
        refine z_iadd d_Tb_staleShares_33 ?_
        refine z_topv (v := zsum (fun i => zbc (zset (zstl (V (400 + i)) (V (200 + i) 3)) 8)) (i + 1)) rfl ?_
        refine z_istore_n (L' := [(1, _), (2, _), (0, _)]) d_Tb_staleShares_34 rfl (by decide) rfl ?_
        skip
        refine z_iinc (v := nI (i + 1)) (L' := [(2, _), (1, _), (0, _)]) 1 d_Tb_staleShares_35 rfl (nI_1 i) (by decide) rfl ?_
        refine z_goto 4 d_Tb_staleShares_38 (by decide) ?_
        exact ih_4 (i + 1) (by omega) (by omega)
  exact key_4 (ns + 1) 0 (by omega) (by omega)
set_option maxHeartbeats 4000000 in
set_option maxRecDepth 100000 in
theorem m_Tb_tellOfBankE {g0 : State} {d : zD} {l : Launch} {a0 : Array Value} (hs0 : zS0 d a0 g0) (hst : l.stackTraces = false) {G : zG} {A : Nat → Nat} {D : Nat → UInt64} {V : Nat → Nat → Int32} {nk ns : Nat} (hT : zT d A D V nk ns G) (w : Int32) : zMet g0 d l y_Tb_tellOfBank c_Tb_tellOfBank 2 ((Option.some Jvm.ClassFile.FieldType.int)) 12 0 0 [.ref (A 0), .int w] (G) (zEq (some (.int (qBk V nk ns w))) G) (zNo) := by
  have hG_Tb := hT.tb
  have hnk : nk ≤ 8 := hT.2.1
  have hns : ns ≤ 6 := hT.2.2.1
  refine z_entry hs0 hst (by decide) (Nat.le_of_ble_eq_true rfl) (fun p e s m args below meth c => ?_)
  refine z_iload_n 1 d_Tb_tellOfBank_0 rfl rfl ?_
  by_cases e0 : w = 0
  · subst e0
    refine z_tableIn 60 d_Tb_tellOfBank_1 (by decide) (by decide) rfl (by decide) ?_
    refine z_aload_n 0 d_Tb_tellOfBank_60 rfl rfl ?_
    refine z_get zc_Tb 0 (by decide) qF_Tb_10 hG_Tb rfl d_Tb_tellOfBank_61 ?_
    refine z_callV0 (m_AL_size hs0 hst hT.kl) ym_AL_size qM_Tb_68 qI_AL_size qV_AL_AL_size zc_AL hT.kl d_Tb_tellOfBank_64 rfl (Nat.le_of_ble_eq_true rfl) ⟨Nat.zero_le _, Nat.zero_le _⟩ ⟨Nat.le_of_ble_eq_true rfl, Nat.le_of_ble_eq_true rfl⟩ ?_
    exact z_iret rfl (⟨by unfold qBk; rw [if_pos rfl], rfl⟩) (by first | decide | omega) (by first | decide | omega) d_Tb_tellOfBank_67
  by_cases e1 : w = 1
  · subst e1
    refine z_tableIn 68 d_Tb_tellOfBank_1 (by decide) (by decide) rfl (by decide) ?_
    refine z_aload_n 0 d_Tb_tellOfBank_68 rfl rfl ?_
    refine z_get zc_Tb 1 (by decide) qF_Tb_16 hG_Tb rfl d_Tb_tellOfBank_69 ?_
    refine z_callV0 (m_AL_size hs0 hst hT.sl) ym_AL_size qM_Tb_68 qI_AL_size qV_AL_AL_size zc_AL hT.sl d_Tb_tellOfBank_72 rfl (Nat.le_of_ble_eq_true rfl) ⟨Nat.zero_le _, Nat.zero_le _⟩ ⟨Nat.le_of_ble_eq_true rfl, Nat.le_of_ble_eq_true rfl⟩ ?_
    exact z_iret rfl (⟨by unfold qBk; rw [if_neg (by decide), if_pos rfl], rfl⟩) (by first | decide | omega) (by first | decide | omega) d_Tb_tellOfBank_75
  by_cases e2 : w = 2
  · subst e2
    refine z_tableIn 76 d_Tb_tellOfBank_1 (by decide) (by decide) rfl (by decide) ?_
    refine z_aload_n 0 d_Tb_tellOfBank_76 rfl rfl ?_
    refine z_get zc_Tb 6 (by decide) qF_Tb_44 hG_Tb rfl d_Tb_tellOfBank_77 ?_
    exact z_iret rfl (⟨by unfold qBk; rw [if_neg (by decide), if_neg (by decide), if_pos rfl], rfl⟩) (by first | decide | omega) (by first | decide | omega) d_Tb_tellOfBank_80
  by_cases e3 : w = 3
  · subst e3
    refine z_tableIn 81 d_Tb_tellOfBank_1 (by decide) (by decide) rfl (by decide) ?_
    refine z_aload_n 0 d_Tb_tellOfBank_81 rfl rfl ?_
    refine z_get zc_Tb 3 (by decide) qF_Tb_29 hG_Tb rfl d_Tb_tellOfBank_82 ?_
    refine z_get zc_Cu 1 (by decide) qF_Tb_398 hT.cu rfl d_Tb_tellOfBank_85 ?_
    exact z_iret rfl (⟨by unfold qBk; rw [if_neg (by decide), if_neg (by decide), if_neg (by decide), if_pos rfl], rfl⟩) (by first | decide | omega) (by first | decide | omega) d_Tb_tellOfBank_88
  by_cases e4 : w = 4
  · subst e4
    refine z_tableIn 89 d_Tb_tellOfBank_1 (by decide) (by decide) rfl (by decide) ?_
    refine z_aload_n 0 d_Tb_tellOfBank_89 rfl rfl ?_
    refine z_get zc_Tb 2 (by decide) qF_Tb_22 hG_Tb rfl d_Tb_tellOfBank_90 ?_
    refine z_callV0 (m_Re_size hs0 hst hT.re) ym_Re_size qM_Tb_322 qI_Re_size qV_Re_Re_size zc_Re hT.re d_Tb_tellOfBank_93 rfl (Nat.le_of_ble_eq_true rfl) ⟨Nat.zero_le _, Nat.zero_le _⟩ ⟨Nat.le_of_ble_eq_true rfl, Nat.le_of_ble_eq_true rfl⟩ ?_
    exact z_iret rfl (⟨by unfold qBk; rw [if_neg (by decide), if_neg (by decide), if_neg (by decide), if_neg (by decide), if_pos rfl], rfl⟩) (by first | decide | omega) (by first | decide | omega) d_Tb_tellOfBank_96
  by_cases e5 : w = 5
  · subst e5
    refine z_tableIn 97 d_Tb_tellOfBank_1 (by decide) (by decide) rfl (by decide) ?_
    refine z_aload_n 0 d_Tb_tellOfBank_97 rfl rfl ?_
    refine z_get zc_Tb 2 (by decide) qF_Tb_22 hG_Tb rfl d_Tb_tellOfBank_98 ?_
    refine z_callV0 (m_Re_root hs0 hst hT.re (hT.1.2 9 (tl_s 9))) ym_Re_root qM_Tb_401 qI_Re_root qV_Re_Re_root zc_Re hT.re d_Tb_tellOfBank_101 rfl (Nat.le_of_ble_eq_true rfl) ⟨Nat.zero_le _, Nat.zero_le _⟩ ⟨Nat.le_of_ble_eq_true rfl, Nat.le_of_ble_eq_true rfl⟩ ?_
    exact z_iret rfl (⟨by unfold qBk; rw [if_neg (by decide), if_neg (by decide), if_neg (by decide), if_neg (by decide), if_neg (by decide), if_pos rfl], rfl⟩) (by first | decide | omega) (by first | decide | omega) d_Tb_tellOfBank_104
  by_cases e6 : w = 6
  · subst e6
    refine z_tableIn 105 d_Tb_tellOfBank_1 (by decide) (by decide) rfl (by decide) ?_
    refine z_aload_n 0 d_Tb_tellOfBank_105 rfl rfl ?_
    refine z_get zc_Tb 7 (by decide) qF_Tb_48 hG_Tb rfl d_Tb_tellOfBank_106 ?_
    exact z_iret rfl (⟨by unfold qBk; rw [if_neg (by decide), if_neg (by decide), if_neg (by decide), if_neg (by decide), if_neg (by decide), if_neg (by decide), if_pos rfl], rfl⟩) (by first | decide | omega) (by first | decide | omega) d_Tb_tellOfBank_109
  by_cases e7 : w = 7
  · subst e7
    refine z_tableIn 110 d_Tb_tellOfBank_1 (by decide) (by decide) rfl (by decide) ?_
    refine z_aload_n 0 d_Tb_tellOfBank_110 rfl rfl ?_
    refine z_get zc_Tb 8 (by decide) qF_Tb_51 hG_Tb rfl d_Tb_tellOfBank_111 ?_
    exact z_iret rfl (⟨by unfold qBk; rw [if_neg (by decide), if_neg (by decide), if_neg (by decide), if_neg (by decide), if_neg (by decide), if_neg (by decide), if_neg (by decide), if_pos rfl], rfl⟩) (by first | decide | omega) (by first | decide | omega) d_Tb_tellOfBank_114
  by_cases e8 : w = 8
  · subst e8
    refine z_tableIn 115 d_Tb_tellOfBank_1 (by decide) (by decide) rfl (by decide) ?_
    refine z_aload_n 0 d_Tb_tellOfBank_115 rfl rfl ?_
    refine z_get zc_Tb 9 (by decide) qF_Tb_54 hG_Tb rfl d_Tb_tellOfBank_116 ?_
    exact z_iret rfl (⟨by unfold qBk; rw [if_neg (by decide), if_neg (by decide), if_neg (by decide), if_neg (by decide), if_neg (by decide), if_neg (by decide), if_neg (by decide), if_neg (by decide), if_pos rfl], rfl⟩) (by first | decide | omega) (by first | decide | omega) d_Tb_tellOfBank_119
  by_cases e9 : w = 9
  · subst e9
    refine z_tableIn 120 d_Tb_tellOfBank_1 (by decide) (by decide) rfl (by decide) ?_
    refine z_aload_n 0 d_Tb_tellOfBank_120 rfl rfl ?_
    refine z_callV0 ((m_Tb_notedKeepersE hs0 hst hT)) ym_Tb_notedKeepers qM_Tb_404 qI_Tb_notedKeepers qV_Tb_Tb_notedKeepers zc_Tb hG_Tb d_Tb_tellOfBank_121 rfl (Nat.le_of_ble_eq_true rfl) ⟨Nat.zero_le _, Nat.zero_le _⟩ ⟨Nat.le_of_ble_eq_true rfl, Nat.le_of_ble_eq_true rfl⟩ ?_
    exact z_iret rfl (⟨by unfold qBk; rw [if_neg (by decide), if_neg (by decide), if_neg (by decide), if_neg (by decide), if_neg (by decide), if_neg (by decide), if_neg (by decide), if_neg (by decide), if_neg (by decide), if_pos rfl], rfl⟩) (by first | decide | omega) (by first | decide | omega) d_Tb_tellOfBank_124
  by_cases e10 : w = 10
  · subst e10
    refine z_tableIn 125 d_Tb_tellOfBank_1 (by decide) (by decide) rfl (by decide) ?_
    refine z_aload_n 0 d_Tb_tellOfBank_125 rfl rfl ?_
    refine z_callV0 ((m_Tb_currentSharesE hs0 hst hT)) ym_Tb_currentShares qM_Tb_407 qI_Tb_currentShares qV_Tb_Tb_currentShares zc_Tb hG_Tb d_Tb_tellOfBank_126 rfl (Nat.le_of_ble_eq_true rfl) ⟨Nat.zero_le _, Nat.zero_le _⟩ ⟨Nat.le_of_ble_eq_true rfl, Nat.le_of_ble_eq_true rfl⟩ ?_
    exact z_iret rfl (⟨by unfold qBk; rw [if_neg (by decide), if_neg (by decide), if_neg (by decide), if_neg (by decide), if_neg (by decide), if_neg (by decide), if_neg (by decide), if_neg (by decide), if_neg (by decide), if_neg (by decide), if_pos rfl], rfl⟩) (by first | decide | omega) (by first | decide | omega) d_Tb_tellOfBank_129
  have ed : w.toInt < 0 ∨ 10 < w.toInt := by
    simp only [← Int32.toInt_inj, Int32.reduceToInt] at e0 e1 e2 e3 e4 e5 e6 e7 e8 e9 e10
    omega
  · skip
    refine z_tableOut 130 d_Tb_tellOfBank_1 (ed) (by decide) ?_
    refine z_aload_n 0 d_Tb_tellOfBank_130 rfl rfl ?_
    refine z_callV0 ((m_Tb_staleSharesE hs0 hst hT)) ym_Tb_staleShares qM_Tb_410 qI_Tb_staleShares qV_Tb_Tb_staleShares zc_Tb hG_Tb d_Tb_tellOfBank_131 rfl (Nat.le_of_ble_eq_true rfl) ⟨Nat.zero_le _, Nat.zero_le _⟩ ⟨Nat.le_of_ble_eq_true rfl, Nat.le_of_ble_eq_true rfl⟩ ?_
    exact z_iret rfl (⟨by unfold qBk; rw [if_neg (fun e => by subst e; revert ed; decide), if_neg (fun e => by subst e; revert ed; decide), if_neg (fun e => by subst e; revert ed; decide), if_neg (fun e => by subst e; revert ed; decide), if_neg (fun e => by subst e; revert ed; decide), if_neg (fun e => by subst e; revert ed; decide), if_neg (fun e => by subst e; revert ed; decide), if_neg (fun e => by subst e; revert ed; decide), if_neg (fun e => by subst e; revert ed; decide), if_neg (fun e => by subst e; revert ed; decide), if_neg (fun e => by subst e; revert ed; decide)], rfl⟩) (by first | decide | omega) (by first | decide | omega) d_Tb_tellOfBank_134

/-! what is asked, exactly: the class's answer by T, what is thrown by P; the reference's by T -/
/-- what is told of a keeper: class, reference -/
def qKe (V : Nat → Nat → Int32) (ns k : Nat) (w : Int32) : Int32 := if w = 0 then V (100 + k) 1 else if w = 1 then V (100 + k) 2 else if w = 2 then V (100 + k) 3 else if w = 3 then V (100 + k) 4 else if w = 4 then (if V (100 + k) 5 = 0 then 0 else 1) else if w = 5 then nI (zcnt (fun i => decide (V (400 + i) k ≠ -1)) ns) else nI (zcnt (fun i => zstl (V (400 + i)) (V (200 + i) 3) k) ns)
def mKeA (W : Nat → Nat → Int32) (ns k : Nat) : Nat → Int32 := upd (upd (upd (upd (upd (upd (upd (fun _ => 0) 0 (W (100 + k) 0)) 1 (W (100 + k) 1)) 2 (W (100 + k) 2)) 3 (W (100 + k) 3)) 4 (if W (100 + k) 4 = 0 then 0 else 1)) 5 (nI (zcnt (fun i => decide (W (300 + i) k ≠ -1)) ns))) 6 (nI (zcnt (fun i => zst (W (300 + i)) (W (400 + i)) (W (200 + i) 3) k) ns))
def tKe (V : Nat → Nat → Int32) (nk ns : Nat) (x w v : Int32) : Prop := ∃ k, k < nk ∧ x = nI k ∧ zin w 0 6 = true ∧ v = qKe V ns k w
def pKe (nk : Nat) (x w kk : Int32) : Prop := (zoo nk x ∧ kk = 1) ∨ (∃ k, k < nk ∧ x = nI k ∧ zin w 0 6 = false ∧ kk = 2)
def rKe (nk ns : Nat) (x w t b : Int32) (W : Nat → Nat → Int32) : Prop := (zin x 0 (nI nk - 1) = false ∧ t = 1) ∨ (∃ k, k < nk ∧ x = nI k ∧ ((zin w 0 6 = false ∧ t = 2) ∨ (∃ q, q < 7 ∧ w = nI q ∧ t = 0 ∧ b = mKeA W ns k q)))

set_option maxHeartbeats 4000000 in
set_option maxRecDepth 100000 in
theorem m_Tb_tellOfKeeperE {g0 : State} {d : zD} {l : Launch} {a0 : Array Value} (hs0 : zS0 d a0 g0) (hst : l.stackTraces = false) {G : zG} {A : Nat → Nat} {D : Nat → UInt64} {V : Nat → Nat → Int32} {nk ns : Nat} (hT : zT d A D V nk ns G) {ki : Nat} (hki : ki < nk) (w : Int32) : zMet g0 d l y_Tb_tellOfKeeper c_Tb_tellOfKeeper 3 ((Option.some Jvm.ClassFile.FieldType.int)) 12 0 0 [.ref (A 0), .ref (A (100 + ki)), .int w] (G) (zEq (some (.int (qKe V ns ki w))) G) (zNo) := by
  have hG_Tb := hT.tb
  have hnk : nk ≤ 8 := hT.2.1
  have hns : ns ≤ 6 := hT.2.2.1
  refine z_entry hs0 hst (by decide) (Nat.le_of_ble_eq_true rfl) (fun p e s m args below meth c => ?_)
  refine z_iload_n 2 d_Tb_tellOfKeeper_0 rfl rfl ?_
  by_cases e0 : w = 0
  · subst e0
    refine z_tableIn 40 d_Tb_tellOfKeeper_1 (by decide) (by decide) rfl (by decide) ?_
    refine z_aload_n 1 d_Tb_tellOfKeeper_40 rfl rfl ?_
    refine z_get zc_Ke 1 (by decide) qF_Tb_170 (hT.ke hki) rfl d_Tb_tellOfKeeper_41 ?_
    exact z_iret rfl (⟨by unfold qKe; rw [if_pos rfl], rfl⟩) (by first | decide | omega) (by first | decide | omega) d_Tb_tellOfKeeper_44
  by_cases e1 : w = 1
  · subst e1
    refine z_tableIn 45 d_Tb_tellOfKeeper_1 (by decide) (by decide) rfl (by decide) ?_
    refine z_aload_n 1 d_Tb_tellOfKeeper_45 rfl rfl ?_
    refine z_get zc_Ke 2 (by decide) qF_Tb_363 (hT.ke hki) rfl d_Tb_tellOfKeeper_46 ?_
    exact z_iret rfl (⟨by unfold qKe; rw [if_neg (by decide), if_pos rfl], rfl⟩) (by first | decide | omega) (by first | decide | omega) d_Tb_tellOfKeeper_49
  by_cases e2 : w = 2
  · subst e2
    refine z_tableIn 50 d_Tb_tellOfKeeper_1 (by decide) (by decide) rfl (by decide) ?_
    refine z_aload_n 1 d_Tb_tellOfKeeper_50 rfl rfl ?_
    refine z_get zc_Ke 3 (by decide) qF_Tb_375 (hT.ke hki) rfl d_Tb_tellOfKeeper_51 ?_
    exact z_iret rfl (⟨by unfold qKe; rw [if_neg (by decide), if_neg (by decide), if_pos rfl], rfl⟩) (by first | decide | omega) (by first | decide | omega) d_Tb_tellOfKeeper_54
  by_cases e3 : w = 3
  · subst e3
    refine z_tableIn 55 d_Tb_tellOfKeeper_1 (by decide) (by decide) rfl (by decide) ?_
    refine z_aload_n 1 d_Tb_tellOfKeeper_55 rfl rfl ?_
    refine z_get zc_Ke 4 (by decide) qF_Tb_96 (hT.ke hki) rfl d_Tb_tellOfKeeper_56 ?_
    exact z_iret rfl (⟨by unfold qKe; rw [if_neg (by decide), if_neg (by decide), if_neg (by decide), if_pos rfl], rfl⟩) (by first | decide | omega) (by first | decide | omega) d_Tb_tellOfKeeper_59
  by_cases e4 : w = 4
  · subst e4
    refine z_tableIn 60 d_Tb_tellOfKeeper_1 (by decide) (by decide) rfl (by decide) ?_
    refine z_aload_n 1 d_Tb_tellOfKeeper_60 rfl rfl ?_
    refine z_get zc_Ke 5 (by decide) qF_Tb_348 (hT.ke hki) rfl d_Tb_tellOfKeeper_61 ?_
    refine z_if_eq 71 d_Tb_tellOfKeeper_64 (by decide) (fun c_64 => ?_) (fun c_64 => ?_)
    · skip
      refine z_iconst (v := 0) d_Tb_tellOfKeeper_71 (by decide) ?_
      exact z_iret rfl (⟨by unfold qKe; first | rw [if_neg (show ¬ (4 : Int32) = 0 by decide), if_neg (show ¬ (4 : Int32) = 1 by decide), if_neg (show ¬ (4 : Int32) = 2 by decide), if_neg (show ¬ (4 : Int32) = 3 by decide), if_pos rfl, if_pos c_64] | rw [if_neg (show ¬ (4 : Int32) = 0 by decide), if_neg (show ¬ (4 : Int32) = 1 by decide), if_neg (show ¬ (4 : Int32) = 2 by decide), if_neg (show ¬ (4 : Int32) = 3 by decide), if_pos rfl, if_neg c_64], rfl⟩) (by first | decide | omega) (by first | decide | omega) d_Tb_tellOfKeeper_72
    · skip
      refine z_iconst (v := 1) d_Tb_tellOfKeeper_67 (by decide) ?_
      refine z_goto 72 d_Tb_tellOfKeeper_68 (by decide) ?_
      exact z_iret rfl (⟨by unfold qKe; first | rw [if_neg (show ¬ (4 : Int32) = 0 by decide), if_neg (show ¬ (4 : Int32) = 1 by decide), if_neg (show ¬ (4 : Int32) = 2 by decide), if_neg (show ¬ (4 : Int32) = 3 by decide), if_pos rfl, if_pos c_64] | rw [if_neg (show ¬ (4 : Int32) = 0 by decide), if_neg (show ¬ (4 : Int32) = 1 by decide), if_neg (show ¬ (4 : Int32) = 2 by decide), if_neg (show ¬ (4 : Int32) = 3 by decide), if_pos rfl, if_neg c_64], rfl⟩) (by first | decide | omega) (by first | decide | omega) d_Tb_tellOfKeeper_72
  by_cases e5 : w = 5
  · subst e5
    refine z_tableIn 73 d_Tb_tellOfKeeper_1 (by decide) (by decide) rfl (by decide) ?_
    refine z_aload_n 0 d_Tb_tellOfKeeper_73 rfl rfl ?_
    refine z_aload_n 1 d_Tb_tellOfKeeper_74 rfl rfl ?_
    refine z_get zc_Ke 0 (by decide) qF_Tb_383 (hT.ke hki) rfl d_Tb_tellOfKeeper_75 ?_
    rw [hT.kn hki]
    refine z_callV0 (m_Tb_sharesOf hs0 hst hT (show ki < 8 by omega)) ym_Tb_sharesOf qM_Tb_173 qI_Tb_sharesOf qV_Tb_Tb_sharesOf zc_Tb hG_Tb d_Tb_tellOfKeeper_78 rfl (Nat.le_of_ble_eq_true rfl) ⟨Nat.zero_le _, Nat.zero_le _⟩ ⟨Nat.le_of_ble_eq_true rfl, Nat.le_of_ble_eq_true rfl⟩ ?_
    exact z_iret rfl (⟨by unfold qKe; rw [if_neg (by decide), if_neg (by decide), if_neg (by decide), if_neg (by decide), if_neg (by decide), if_pos rfl], rfl⟩) (by first | decide | omega) (by first | decide | omega) d_Tb_tellOfKeeper_81
  have ed : w.toInt < 0 ∨ 5 < w.toInt := by
    simp only [← Int32.toInt_inj, Int32.reduceToInt] at e0 e1 e2 e3 e4 e5
    omega
  · skip
    refine z_tableOut 82 d_Tb_tellOfKeeper_1 (ed) (by decide) ?_
    refine z_aload_n 0 d_Tb_tellOfKeeper_82 rfl rfl ?_
    refine z_aload_n 1 d_Tb_tellOfKeeper_83 rfl rfl ?_
    refine z_get zc_Ke 0 (by decide) qF_Tb_383 (hT.ke hki) rfl d_Tb_tellOfKeeper_84 ?_
    rw [hT.kn hki]
    refine z_callV0 (m_Tb_staleSharesOf hs0 hst hT (show ki < 8 by omega)) ym_Tb_staleSharesOf qM_Tb_386 qI_Tb_staleSharesOf qV_Tb_Tb_staleSharesOf zc_Tb hG_Tb d_Tb_tellOfKeeper_87 rfl (Nat.le_of_ble_eq_true rfl) ⟨Nat.zero_le _, Nat.zero_le _⟩ ⟨Nat.le_of_ble_eq_true rfl, Nat.le_of_ble_eq_true rfl⟩ ?_
    exact z_iret rfl (⟨by unfold qKe; rw [if_neg (fun e => by subst e; revert ed; decide), if_neg (fun e => by subst e; revert ed; decide), if_neg (fun e => by subst e; revert ed; decide), if_neg (fun e => by subst e; revert ed; decide), if_neg (fun e => by subst e; revert ed; decide), if_neg (fun e => by subst e; revert ed; decide)], rfl⟩) (by first | decide | omega) (by first | decide | omega) d_Tb_tellOfKeeper_90

/-! what is asked, exactly: the class's answer by T, what is thrown by P; the reference's by T -/
/-- the sum over a set -/
def zpri (set : Int32) (p : Nat → Int32) : Nat → Int32
  | 0 => nI 0
  | n + 1 => if zbt set n = true then zpri set p n + p n else zpri set p n
theorem zpri_t {set : Int32} {p : Nat → Int32} {n : Nat} (h : zbt set n = true) : zpri set p n + p n = zpri set p (n + 1) := (if_pos h).symm
theorem zpri_f {set : Int32} {p : Nat → Int32} {n : Nat} (h : zbt set n = false) : zpri set p n = zpri set p (n + 1) := (if_neg (by rw [h]; decide)).symm
/-- the cheapest of the first n, by one more; 0: there is none -/
def zch (f : Nat → Bool) (p : Nat → Int32) : Nat → Nat
  | 0 => 0
  | n + 1 => if f n = true ∧ (zch f p n = 0 ∨ p n < p (zch f p n - 1)) then n + 1 else zch f p n
theorem zch_le (f : Nat → Bool) (p : Nat → Int32) : ∀ n, zch f p n ≤ n
  | 0 => Nat.le_refl _
  | n + 1 => by
    have := zch_le f p n
    unfold zch
    split <;> omega
theorem zch_t {f : Nat → Bool} {p : Nat → Int32} {n : Nat} (h : f n = true) (h2 : zch f p n = 0 ∨ p n < p (zch f p n - 1)) : zch f p (n + 1) = n + 1 := if_pos ⟨h, h2⟩
theorem zch_f {f : Nat → Bool} {p : Nat → Int32} {n : Nat} (h : f n = false ∨ ¬ (zch f p n = 0 ∨ p n < p (zch f p n - 1))) : zch f p (n + 1) = zch f p n := if_neg (fun q => h.elim (fun e => by rw [q.1] at e; cases e) (fun e => e q.2))
def zc1 : Nat → Int32
  | 0 => 0
  | b + 1 => 1 <<< (nI b &&& 31)
def zc2 (p : Nat → Int32) : Nat → Int32
  | 0 => 0
  | b + 1 => p b
theorem zc1_0 : ∀ b, b < 10 → (zc1 b = 0 ↔ b = 0) := by decide +kernel
theorem zc2_p {p : Nat → Int32} {b : Nat} (h : b ≠ 0) : zc2 p b = p (b - 1) := by
  cases b with
  | zero => exact absurd rfl h
  | succ b => rfl
/-- a set with one more -/
def zput (B : Nat) : Nat → Nat
  | 0 => B
  | b + 1 => B ||| 1 <<< b
theorem zput_c {B b : Nat} (hB : B < 512) (hb : b ≤ 9) : nI B ||| zc1 b = nI (zput B b) ∧ zput B b < 512 := by
  cases b with
  | zero => exact ⟨Int32.or_zero, hB⟩
  | succ b => exact zor_lt B hB b (by omega)
/-- what is left of a set -/
def zlft (h B : Nat) : Nat := zsetN (fun k => h.testBit k && !B.testBit k) 9
theorem zlft_lt (h B : Nat) : zlft h B < 512 := (zset_N _ 9 (by decide)).2
theorem zlft_at {h B k : Nat} (hk : k < 9) : (zlft h B).testBit k = (h.testBit k && !B.testBit k) := by
  unfold zlft
  rw [zsN_at _ 9 (by decide) k hk, decide_eq_true hk, Bool.true_and]
theorem zlft_0 {h : Nat} (hh : h < 512) : zlft h 0 = h := tb_ext (zlft_lt h 0) hh fun k hk => by rw [zlft_at hk, Nat.zero_testBit, Bool.not_false, Bool.and_true]
theorem zput_at {B b : Nat} (hB : B < 512) (hb : b ≤ 9) {k : Nat} (hk : k < 9) : (zput B b).testBit k = (B.testBit k || decide (b = k + 1)) := by
  cases b with
  | zero => show B.testBit k = _; rw [decide_eq_false (by omega), Bool.or_false]
  | succ b =>
    have key : ∀ b, b < 9 → ∀ k, k < 9 → (1 <<< b).testBit k = decide (b + 1 = k + 1) := by decide +kernel
    show (B ||| 1 <<< b).testBit k = _
    rw [Nat.testBit_or, key b (by omega) k hk]
theorem zlft_c {h B b : Nat} (hB : B < 512) (hb : b ≤ 9) : nI (zlft h B) &&& (zc1 b ^^^ (-1)) = nI (zlft h (zput B b)) := by
  have e : zc1 b = nI (zput 0 b) := by
    have := (zput_c (B := 0) (b := b) (by decide) hb).1
    rw [nI_0, Int32.zero_or] at this
    exact this
  have hp : zput 0 b < 512 := (zput_c (B := 0) (b := b) (by decide) hb).2
  rw [e, nI_andn (zlft_lt h B) hp]
  refine congrArg nI (tb_ext (zset_N _ 9 (by decide)).2 (zlft_lt _ _) fun k hk => ?_)
  rw [zsN_at _ 9 (by decide) k hk, decide_eq_true hk, Bool.true_and, zlft_at hk, zlft_at hk, zput_at (by decide) hb hk, zput_at hB hb hk, Nat.zero_testBit, Bool.false_or, Bool.not_or, Bool.and_assoc]
/-- the cheapest n of a set, one after another -/
def zbB (h nk : Nat) (p : Nat → Int32) : Nat → Nat
  | 0 => 0
  | n + 1 => zput (zbB h nk p n) (zch (fun k => (zlft h (zbB h nk p n)).testBit k) p nk)
theorem zbB_lt {h nk : Nat} (hk : nk ≤ 8) (p : Nat → Int32) : ∀ n, zbB h nk p n < 512
  | 0 => by show (0 : Nat) < 512; decide
  | n + 1 => (zput_c (zbB_lt hk p n) (by have := zch_le (fun k => (zlft h (zbB h nk p n)).testBit k) p nk; omega)).2
def zBo (h nk t : Nat) (p : Nat → Int32) : Int32 := if nI t ≤ nI (zpop 9 h) then nI (zbB h nk p t) else 0

/-- what is told of a secret: class -/
def qSe (V : Nat → Nat → Int32) (nk si t : Nat) (w : Int32) : Int32 := if w = 0 then V (200 + si) 0 else if w = 1 then V (200 + si) 1 else if w = 2 then V (200 + si) 2 else if w = 3 then V (200 + si) 3 else if w = 4 then zset (zcur (V (400 + si)) (V (200 + si) 3)) 8 else if w = 5 then zset (zstl (V (400 + si)) (V (200 + si) 3)) 8 else if w = 6 then zbc (V (200 + si) 4) else if w = 7 then (if zBo (zsetN (zcur (V (400 + si)) (V (200 + si) 3)) 8) nk t (fun k => V (100 + k) 2) = 0 then -1 else zpri (zBo (zsetN (zcur (V (400 + si)) (V (200 + si) 3)) 8) nk t (fun k => V (100 + k) 2)) (fun k => V (100 + k) 2) nk) else zBo (zsetN (zcur (V (400 + si)) (V (200 + si) 3)) 8) nk t (fun k => V (100 + k) 2)
def tSe (V : Nat → Nat → Int32) (nk ns : Nat) (x w v : Int32) : Prop := ∃ si, si < ns ∧ x = nI si ∧ zin w 0 8 = true ∧ ∃ t, 1 ≤ t ∧ t ≤ 4 ∧ V (200 + si) 0 = nI t ∧ v = qSe V nk si t w
def pSe (ns : Nat) (x w kk : Int32) : Prop := (zoo ns x ∧ kk = 1) ∨ (∃ si, si < ns ∧ x = nI si ∧ zin w 0 8 = false ∧ kk = 2)

set_option maxHeartbeats 4000000 in
set_option maxRecDepth 100000 in
theorem m_Tb_priceOfE {g0 : State} {d : zD} {l : Launch} {a0 : Array Value} (hs0 : zS0 d a0 g0) (hst : l.stackTraces = false) {G : zG} {A : Nat → Nat} {D : Nat → UInt64} {V : Nat → Nat → Int32} {nk ns : Nat} (hT : zT d A D V nk ns G) (set : Int32) : zMet g0 d l y_Tb_priceOf c_Tb_priceOf 4 ((Option.some Jvm.ClassFile.FieldType.int)) 11 0 0 [.ref (A 0), .int set] (G) (zEq (some (.int (zpri set (fun k => V (100 + k) 2) nk))) G) (zNo) := by
  have hG_Tb := hT.tb
  have hnk : nk ≤ 8 := hT.2.1
  have hns : ns ≤ 6 := hT.2.2.1
  refine z_entry hs0 hst (by decide) (Nat.le_of_ble_eq_true rfl) (fun p e s m args below meth c => ?_)
  refine z_iconst (v := (nI 0)) d_Tb_priceOf_0 (by decide) ?_
  refine z_istore_n (L' := [(2, _), (0, _), (1, _)]) d_Tb_priceOf_1 rfl (by decide) rfl ?_
  refine z_iconst (v := (nI 0)) d_Tb_priceOf_2 (by decide) ?_
  refine z_istore_n (L' := [(3, _), (2, _), (0, _), (1, _)]) d_Tb_priceOf_3 rfl (by decide) rfl ?_
  have key_4 : ∀ (n : Nat) (i : Nat), nk - i < n → (i ≤ nk) → Z g0 d y_Tb_priceOf c_Tb_priceOf 4 ((Option.some Jvm.ClassFile.FieldType.int)) [] p l e (zR 11 0 0) s m args below meth c (vx_MQ below (zQc g0 d (zEq (some (.int (zpri set (fun k => V (100 + k) 2) nk))) G)) (zXc g0 d (zNo)) args s 0 0 (zA g0)) 0 0 (G) [(3, .int (nI i)), (2, .int (zpri set (fun k => V (100 + k) 2) i)), (0, .ref (A 0)), (1, .int set)] [] 4 := by
    intro n
    induction n with
    | zero => intro i h0; exact absurd h0 (Nat.not_lt_zero _)
    | succ n ih_4 =>
      intro i hm_4 hi
      refine z_iload_n 0 d_Tb_priceOf_4 rfl rfl ?_
      refine z_aload_n 2 d_Tb_priceOf_5 rfl rfl ?_
      refine z_get zc_Tb 0 (by decide) qF_Tb_10 hG_Tb rfl d_Tb_priceOf_6 ?_
      refine z_callV0 (m_AL_size hs0 hst hT.kl) ym_AL_size qM_Tb_68 qI_AL_size qV_AL_AL_size zc_AL hT.kl d_Tb_priceOf_9 rfl (Nat.le_of_ble_eq_true rfl) ⟨Nat.zero_le _, Nat.zero_le _⟩ ⟨Nat.le_of_ble_eq_true rfl, Nat.le_of_ble_eq_true rfl⟩ ?_
      refine z_icmp_ge 46 d_Tb_priceOf_12 (by decide) (fun c_12 => ?_) (fun c_12 => ?_)
      · skip
        obtain rfl : nk = i := by
          have := (nI_leI (a := nk) (b := i) (by omega) (by omega)).mp c_12
          omega
        refine z_iload_n 1 d_Tb_priceOf_46 rfl rfl ?_
        exact z_iret rfl (⟨rfl, rfl⟩) (by first | decide | omega) (by first | decide | omega) d_Tb_priceOf_47
      · skip
        have hi6 : i < nk := Nat.lt_of_not_le fun q => c_12 (nI_le q (by omega))
        refine z_iload_n 3 d_Tb_priceOf_15 rfl rfl ?_
        refine z_iload_n 0 d_Tb_priceOf_16 rfl rfl ?_
        refine z_callS0 (m_Tb_isIn hs0 hst set (nI i)) ym_Tb_isIn qM_Tb_124 qS_Tb_isIn d_Tb_priceOf_17 rfl (Nat.le_of_ble_eq_true rfl) ⟨Nat.zero_le _, Nat.zero_le _⟩ ⟨Nat.le_of_ble_eq_true rfl, Nat.le_of_ble_eq_true rfl⟩ ?_
        refine z_if_eq 40 d_Tb_priceOf_20 (by decide) (fun c_20 => ?_) (fun c_20 => ?_)
        · skip
          rw [zpri_f (p := (fun k => V (100 + k) 2)) (show zbt set i = false from (zb_0 _).mp c_20)]
          refine z_iinc (v := nI (i + 1)) (L' := [(3, _), (2, _), (0, _), (1, _)]) 0 d_Tb_priceOf_40 rfl (nI_1 i) (by decide) rfl ?_
          refine z_goto 4 d_Tb_priceOf_43 (by decide) ?_
          exact ih_4 (i + 1) (by omega) (by omega)
        · skip
          refine z_iload_n 1 d_Tb_priceOf_23 rfl rfl ?_
          refine z_aload_n 2 d_Tb_priceOf_24 rfl rfl ?_
          refine z_get zc_Tb 0 (by decide) qF_Tb_10 hG_Tb rfl d_Tb_priceOf_25 ?_
          refine z_iload_n 0 d_Tb_priceOf_28 rfl rfl ?_
          refine z_callV0 (m_AL_get hs0 hst (hT.kA hi6) hi6 (if_pos hi6)) ym_AL_get qM_Tb_166 qI_AL_get qV_AL_AL_get zc_AL (hT.kA hi6).1 d_Tb_priceOf_29 rfl (Nat.le_of_ble_eq_true rfl) ⟨Nat.zero_le _, Nat.zero_le _⟩ ⟨Nat.le_of_ble_eq_true rfl, Nat.le_of_ble_eq_true rfl⟩ ?_
          refine z_castS zc_Ke qK_Tb_77 (hT.ke hi6) d_Tb_priceOf_32 ?_
          refine z_get zc_Ke 2 (by decide) qF_Tb_363 (hT.ke hi6) rfl d_Tb_priceOf_35 ?_
          refine z_iadd d_Tb_priceOf_38 ?_
          refine z_topv (zpri_t (p := (fun k => V (100 + k) 2)) (show zbt set i = true from (zb_n0 _).mp c_20)) ?_
          refine z_istore_n (L' := [(2, _), (3, _), (0, _), (1, _)]) d_Tb_priceOf_39 rfl (by decide) rfl ?_
          refine z_iinc (v := nI (i + 1)) (L' := [(3, _), (2, _), (0, _), (1, _)]) 1 d_Tb_priceOf_40 rfl (nI_1 i) (by decide) rfl ?_
          refine z_goto 4 d_Tb_priceOf_43 (by decide) ?_
          exact ih_4 (i + 1) (by omega) (by omega)
  exact key_4 (nk + 1) 0 (by omega) (by omega)
set_option maxHeartbeats 4000000 in
set_option maxRecDepth 100000 in
theorem m_Tb_cheapestOfE {g0 : State} {d : zD} {l : Launch} {a0 : Array Value} (hs0 : zS0 d a0 g0) (hst : l.stackTraces = false) {G : zG} {A : Nat → Nat} {D : Nat → UInt64} {V : Nat → Nat → Int32} {nk ns : Nat} (hT : zT d A D V nk ns G) {s9 : Nat} (hs9 : s9 < 512) : zMet g0 d l y_Tb_cheapestOf c_Tb_cheapestOf 6 ((Option.some Jvm.ClassFile.FieldType.int)) 11 0 0 [.ref (A 0), .int (nI s9)] (G) (zEq (some (.int (zc1 (zch (fun k => s9.testBit k) (fun k => V (100 + k) 2) nk)))) G) (zNo) := by
  have hG_Tb := hT.tb
  have hnk : nk ≤ 8 := hT.2.1
  have hns : ns ≤ 6 := hT.2.2.1
  refine z_entry hs0 hst (by decide) (Nat.le_of_ble_eq_true rfl) (fun p e s m args below meth c => ?_)
  refine z_iconst (v := 0) d_Tb_cheapestOf_0 (by decide) ?_
  refine z_istore_n (L' := [(2, _), (0, _), (1, _)]) d_Tb_cheapestOf_1 rfl (by decide) rfl ?_
  refine z_iconst (v := 0) d_Tb_cheapestOf_2 (by decide) ?_
  refine z_istore_n (L' := [(3, _), (2, _), (0, _), (1, _)]) d_Tb_cheapestOf_3 rfl (by decide) rfl ?_
  refine z_iconst (v := (nI 0)) d_Tb_cheapestOf_4 (by decide) ?_
  refine z_istore (L' := [(4, _), (3, _), (2, _), (0, _), (1, _)]) d_Tb_cheapestOf_5 (by decide) rfl ?_
  have key_7 : ∀ (n : Nat) (i : Nat), nk - i < n → (i ≤ nk) → Z g0 d y_Tb_cheapestOf c_Tb_cheapestOf 6 ((Option.some Jvm.ClassFile.FieldType.int)) [] p l e (zR 11 0 0) s m args below meth c (vx_MQ below (zQc g0 d (zEq (some (.int (zc1 (zch (fun k => s9.testBit k) (fun k => V (100 + k) 2) nk)))) G)) (zXc g0 d (zNo)) args s 0 0 (zA g0)) 0 0 (G) [(4, .int (nI i)), (3, .int (zc2 (fun k => V (100 + k) 2) (zch (fun k => s9.testBit k) (fun k => V (100 + k) 2) i))), (2, .int (zc1 (zch (fun k => s9.testBit k) (fun k => V (100 + k) 2) i))), (0, .ref (A 0)), (1, .int (nI s9))] [] 7 := by
    intro n
    induction n with
    | zero => intro i h0; exact absurd h0 (Nat.not_lt_zero _)
    | succ n ih_7 =>
      intro i hm_7 hi
      have hle9 := zch_le (fun k => s9.testBit k) (fun k => V (100 + k) 2) i
      refine z_iload 0 d_Tb_cheapestOf_7 rfl ?_
      refine z_aload_n 3 d_Tb_cheapestOf_9 rfl rfl ?_
      refine z_get zc_Tb 0 (by decide) qF_Tb_10 hG_Tb rfl d_Tb_cheapestOf_10 ?_
      refine z_callV0 (m_AL_size hs0 hst hT.kl) ym_AL_size qM_Tb_68 qI_AL_size qV_AL_AL_size zc_AL hT.kl d_Tb_cheapestOf_13 rfl (Nat.le_of_ble_eq_true rfl) ⟨Nat.zero_le _, Nat.zero_le _⟩ ⟨Nat.le_of_ble_eq_true rfl, Nat.le_of_ble_eq_true rfl⟩ ?_
      refine z_icmp_ge 69 d_Tb_cheapestOf_16 (by decide) (fun c_16 => ?_) (fun c_16 => ?_)
      · skip
        obtain rfl : nk = i := by
          have := (nI_leI (a := nk) (b := i) (by omega) (by omega)).mp c_16
          omega
        refine z_iload_n 2 d_Tb_cheapestOf_69 rfl rfl ?_
        exact z_iret rfl (⟨rfl, rfl⟩) (by first | decide | omega) (by first | decide | omega) d_Tb_cheapestOf_70
      · skip
        have hi6 : i < nk := Nat.lt_of_not_le fun q => c_16 (nI_le q (by omega))
        refine z_aload_n 3 d_Tb_cheapestOf_19 rfl rfl ?_
        refine z_get zc_Tb 0 (by decide) qF_Tb_10 hG_Tb rfl d_Tb_cheapestOf_20 ?_
        refine z_iload 0 d_Tb_cheapestOf_23 rfl ?_
        refine z_callV0 (m_AL_get hs0 hst (hT.kA hi6) hi6 (if_pos hi6)) ym_AL_get qM_Tb_166 qI_AL_get qV_AL_AL_get zc_AL (hT.kA hi6).1 d_Tb_cheapestOf_25 rfl (Nat.le_of_ble_eq_true rfl) ⟨Nat.zero_le _, Nat.zero_le _⟩ ⟨Nat.le_of_ble_eq_true rfl, Nat.le_of_ble_eq_true rfl⟩ ?_
        refine z_castS zc_Ke qK_Tb_77 (hT.ke hi6) d_Tb_cheapestOf_28 ?_
        refine z_get zc_Ke 2 (by decide) qF_Tb_363 (hT.ke hi6) rfl d_Tb_cheapestOf_31 ?_
        refine z_istore (L' := [(5, _), (4, _), (3, _), (2, _), (0, _), (1, _)]) d_Tb_cheapestOf_34 (by decide) rfl ?_
        refine z_iload_n 5 d_Tb_cheapestOf_36 rfl rfl ?_
        refine z_iload 1 d_Tb_cheapestOf_37 rfl ?_
        refine z_callS0 (m_Tb_isIn hs0 hst (nI s9) (nI i)) ym_Tb_isIn qM_Tb_124 qS_Tb_isIn d_Tb_cheapestOf_39 rfl (Nat.le_of_ble_eq_true rfl) ⟨Nat.zero_le _, Nat.zero_le _⟩ ⟨Nat.le_of_ble_eq_true rfl, Nat.le_of_ble_eq_true rfl⟩ ?_
        refine z_if_eq 63 d_Tb_cheapestOf_42 (by decide) (fun c_42 => ?_) (fun c_42 => ?_)
        · skip
          have hf9 : (fun k => s9.testBit k) i = false := (tb_zbt s9 hs9 i (by omega)).symm.trans ((zb_0 _).mp c_42)
          rw [← zch_f (f := (fun k => s9.testBit k)) (p := (fun k => V (100 + k) 2)) (n := i) (Or.inl hf9)]
          refine z_iinc (v := nI (i + 1)) (L' := [(4, _), (5, _), (3, _), (2, _), (0, _), (1, _)]) 1 d_Tb_cheapestOf_63 rfl (nI_1 i) (by decide) rfl ?_
          refine z_goto 7 d_Tb_cheapestOf_66 (by decide) ?_
          refine z_sub (L' := [(4, _), (3, _), (2, _), (0, _), (1, _)]) [0, 2, 3, 4, 5] rfl ?_
          first
            | (have hq := ht9
               have hb := ih_7 (i + 1) (by omega) (by omega)
               rw [ht9] at hb
               exact hb)
            | exact ih_7 (i + 1) (by omega) (by omega)
        · skip
          have hf9 : (fun k => s9.testBit k) i = true := (tb_zbt s9 hs9 i (by omega)).symm.trans ((zb_n0 _).mp c_42)
          refine z_iload_n 3 d_Tb_cheapestOf_45 rfl rfl ?_
          refine z_if_eq 55 d_Tb_cheapestOf_46 (by decide) (fun c_46 => ?_) (fun c_46 => ?_)
          · skip
            have ht9 : (zch (fun k => s9.testBit k) (fun k => V (100 + k) 2) (i + 1)) = i + 1 := zch_t (f := (fun k => s9.testBit k)) (p := (fun k => V (100 + k) 2)) hf9 (Or.inl ((zc1_0 _ (by omega)).mp c_46))
            refine z_iconst (v := 1) d_Tb_cheapestOf_55 (by decide) ?_
            refine z_iload 1 d_Tb_cheapestOf_56 rfl ?_
            refine z_ishl d_Tb_cheapestOf_58 ?_
            refine z_istore_n (L' := [(2, _), (5, _), (4, _), (3, _), (0, _), (1, _)]) d_Tb_cheapestOf_59 rfl (by decide) rfl ?_
            refine z_iload 1 d_Tb_cheapestOf_60 rfl ?_
            refine z_istore_n (L' := [(3, _), (2, _), (5, _), (4, _), (0, _), (1, _)]) d_Tb_cheapestOf_62 rfl (by decide) rfl ?_
            refine z_iinc (v := nI (i + 1)) (L' := [(4, _), (3, _), (2, _), (5, _), (0, _), (1, _)]) 3 d_Tb_cheapestOf_63 rfl (nI_1 i) (by decide) rfl ?_
            refine z_goto 7 d_Tb_cheapestOf_66 (by decide) ?_
            refine z_sub (L' := [(4, _), (3, _), (2, _), (0, _), (1, _)]) [0, 1, 2, 4, 5] rfl ?_
            first
              | (have hq := ht9
                 have hb := ih_7 (i + 1) (by omega) (by omega)
                 rw [ht9] at hb
                 exact hb)
              | exact ih_7 (i + 1) (by omega) (by omega)
          · skip
            refine z_iload 0 d_Tb_cheapestOf_49 rfl ?_
            refine z_iload_n 2 d_Tb_cheapestOf_51 rfl rfl ?_
            refine z_icmp_ge 63 d_Tb_cheapestOf_52 (by decide) (fun c_52 => ?_) (fun c_52 => ?_)
            · skip
              rw [← zch_f (f := (fun k => s9.testBit k)) (p := (fun k => V (100 + k) 2)) (n := i) (Or.inr (fun q => q.elim (fun e => c_46 ((zc1_0 _ (by omega)).mpr e)) (fun e => absurd e (Int32.not_lt.mpr (by rw [← zc2_p (p := (fun k => V (100 + k) 2)) (fun e => c_46 ((zc1_0 _ (by omega)).mpr e))]; exact c_52)))))]
              refine z_iinc (v := nI (i + 1)) (L' := [(4, _), (5, _), (3, _), (2, _), (0, _), (1, _)]) 1 d_Tb_cheapestOf_63 rfl (nI_1 i) (by decide) rfl ?_
              refine z_goto 7 d_Tb_cheapestOf_66 (by decide) ?_
              refine z_sub (L' := [(4, _), (3, _), (2, _), (0, _), (1, _)]) [0, 2, 3, 4, 5] rfl ?_
              first
                | (have hq := ht9
                   have hb := ih_7 (i + 1) (by omega) (by omega)
                   rw [ht9] at hb
                   exact hb)
                | exact ih_7 (i + 1) (by omega) (by omega)
            · skip
              have ht9 : (zch (fun k => s9.testBit k) (fun k => V (100 + k) 2) (i + 1)) = i + 1 := zch_t (f := (fun k => s9.testBit k)) (p := (fun k => V (100 + k) 2)) hf9 (Or.inr (by rw [← zc2_p (p := (fun k => V (100 + k) 2)) (fun e => c_46 ((zc1_0 _ (by omega)).mpr e))]; exact Int32.not_le.mp c_52))
              refine z_iconst (v := 1) d_Tb_cheapestOf_55 (by decide) ?_
              refine z_iload 1 d_Tb_cheapestOf_56 rfl ?_
              refine z_ishl d_Tb_cheapestOf_58 ?_
              refine z_istore_n (L' := [(2, _), (5, _), (4, _), (3, _), (0, _), (1, _)]) d_Tb_cheapestOf_59 rfl (by decide) rfl ?_
              refine z_iload 1 d_Tb_cheapestOf_60 rfl ?_
              refine z_istore_n (L' := [(3, _), (2, _), (5, _), (4, _), (0, _), (1, _)]) d_Tb_cheapestOf_62 rfl (by decide) rfl ?_
              refine z_iinc (v := nI (i + 1)) (L' := [(4, _), (3, _), (2, _), (5, _), (0, _), (1, _)]) 3 d_Tb_cheapestOf_63 rfl (nI_1 i) (by decide) rfl ?_
              refine z_goto 7 d_Tb_cheapestOf_66 (by decide) ?_
              refine z_sub (L' := [(4, _), (3, _), (2, _), (0, _), (1, _)]) [0, 1, 2, 4, 5] rfl ?_
              first
                | (have hq := ht9
                   have hb := ih_7 (i + 1) (by omega) (by omega)
                   rw [ht9] at hb
                   exact hb)
                | exact ih_7 (i + 1) (by omega) (by omega)
  exact key_7 (nk + 1) 0 (by omega) (by omega)
set_option maxHeartbeats 4000000 in
set_option maxRecDepth 100000 in
theorem m_Tb_boughtOfE {g0 : State} {d : zD} {l : Launch} {a0 : Array Value} (hs0 : zS0 d a0 g0) (hst : l.stackTraces = false) {G : zG} {A : Nat → Nat} {D : Nat → UInt64} {V : Nat → Nat → Int32} {nk ns : Nat} (hT : zT d A D V nk ns G) {si : Nat} (hsi : si < ns) {t : Nat} (ht : V (200 + si) 0 = nI t) (ht4 : t ≤ 4) : zMet g0 d l y_Tb_boughtOf c_Tb_boughtOf 6 ((Option.some Jvm.ClassFile.FieldType.int)) 12 0 0 [.ref (A 0), .ref (A (200 + si))] (G) (zEq (some (.int (zBo (zsetN (zcur (V (400 + si)) (V (200 + si) 3)) 8) nk t (fun k => V (100 + k) 2)))) G) (zNo) := by
  have hG_Tb := hT.tb
  have hnk : nk ≤ 8 := hT.2.1
  have hns : ns ≤ 6 := hT.2.2.1
  have hS := hT.se hsi
  have hh9 := (zset_N (zcur (V (400 + si)) (V (200 + si) 3)) 8 (by decide)).2
  refine z_entry hs0 hst (by decide) (Nat.le_of_ble_eq_true rfl) (fun p e s m args below meth c => ?_)
  refine z_aload_n 1 d_Tb_boughtOf_0 rfl rfl ?_
  refine z_callV0 (m_Se_currentSet hs0 hst hS) ym_Se_currentSet qM_Tb_144 qI_Se_currentSet qV_Se_Se_currentSet zc_Se hS.1 d_Tb_boughtOf_1 rfl (Nat.le_of_ble_eq_true rfl) ⟨Nat.zero_le _, Nat.zero_le _⟩ ⟨Nat.le_of_ble_eq_true rfl, Nat.le_of_ble_eq_true rfl⟩ ?_
  refine z_topv (v := nI (zlft (zsetN (zcur (V (400 + si)) (V (200 + si) 3)) 8) 0)) (by rw [(zset_N _ 8 (by decide)).1, zlft_0 (by omega)]) ?_
  refine z_istore_n (L' := [(2, _), (0, _), (1, _)]) d_Tb_boughtOf_4 rfl (by decide) rfl ?_
  refine z_iload_n 0 d_Tb_boughtOf_5 rfl rfl ?_
  refine z_callS0 (m_In_bitCount hs0 hst _) ym_In_bitCount qM_Tb_105 qS_In_bitCount d_Tb_boughtOf_6 rfl (Nat.le_of_ble_eq_true rfl) ⟨Nat.zero_le _, Nat.zero_le _⟩ ⟨Nat.le_of_ble_eq_true rfl, Nat.le_of_ble_eq_true rfl⟩ ?_
  refine z_topv (v := nI (zpop 9 (zsetN (zcur (V (400 + si)) (V (200 + si) 3)) 8))) (by rw [zlft_0 (by omega)]; exact zbc_512 _ (by omega)) ?_
  refine z_aload_n 2 d_Tb_boughtOf_9 rfl rfl ?_
  refine z_get zc_Se 0 (by decide) qF_Tb_147 hS.1 rfl d_Tb_boughtOf_10 ?_
  refine z_topv ht ?_
  refine z_icmp_ge 18 d_Tb_boughtOf_13 (by decide) (fun c_13 => ?_) (fun c_13 => ?_)
  · skip
    refine z_iconst (v := (nI 0)) d_Tb_boughtOf_18 (by decide) ?_
    refine z_istore_n (L' := [(3, _), (2, _), (0, _), (1, _)]) d_Tb_boughtOf_19 rfl (by decide) rfl ?_
    refine z_iconst (v := (nI 0)) d_Tb_boughtOf_20 (by decide) ?_
    refine z_istore (L' := [(4, _), (3, _), (2, _), (0, _), (1, _)]) d_Tb_boughtOf_21 (by decide) rfl ?_
    have key_23 : ∀ (n : Nat) (i : Nat), t - i < n → (i ≤ t) → Z g0 d y_Tb_boughtOf c_Tb_boughtOf 6 ((Option.some Jvm.ClassFile.FieldType.int)) [] p l e (zR 12 0 0) s m args below meth c (vx_MQ below (zQc g0 d (zEq (some (.int (zBo (zsetN (zcur (V (400 + si)) (V (200 + si) 3)) 8) nk t (fun k => V (100 + k) 2)))) G)) (zXc g0 d (zNo)) args s 0 0 (zA g0)) 0 0 (G) [(4, .int (nI i)), (3, .int (nI (zbB (zsetN (zcur (V (400 + si)) (V (200 + si) 3)) 8) nk (fun k => V (100 + k) 2) i))), (2, .int (nI (zlft (zsetN (zcur (V (400 + si)) (V (200 + si) 3)) 8) (zbB (zsetN (zcur (V (400 + si)) (V (200 + si) 3)) 8) nk (fun k => V (100 + k) 2) i)))), (0, .ref (A 0)), (1, .ref (A (200 + si)))] [] 23 := by
      intro n
      induction n with
      | zero => intro i h0; exact absurd h0 (Nat.not_lt_zero _)
      | succ n ih_23 =>
        intro i hm_23 hi
        have hb9 := zbB_lt (h := (zsetN (zcur (V (400 + si)) (V (200 + si) 3)) 8)) hnk (fun k => V (100 + k) 2) i
        have hc9 := zch_le (fun k => (zlft (zsetN (zcur (V (400 + si)) (V (200 + si) 3)) 8) (zbB (zsetN (zcur (V (400 + si)) (V (200 + si) 3)) 8) nk (fun k => V (100 + k) 2) i)).testBit k) (fun k => V (100 + k) 2) nk
        refine z_iload 0 d_Tb_boughtOf_23 rfl ?_
        refine z_aload_n 4 d_Tb_boughtOf_25 rfl rfl ?_
        refine z_get zc_Se 0 (by decide) qF_Tb_147 hS.1 rfl d_Tb_boughtOf_26 ?_
        refine z_topv ht ?_
        refine z_icmp_ge 57 d_Tb_boughtOf_29 (by decide) (fun c_29 => ?_) (fun c_29 => ?_)
        · skip
          obtain rfl : t = i := by
            have := (nI_leI (a := t) (b := i) (by omega) (by omega)).mp c_29
            omega
          refine z_iload_n 1 d_Tb_boughtOf_57 rfl rfl ?_
          exact z_iret rfl (⟨by unfold zBo; rw [if_pos c_13], rfl⟩) (by first | decide | omega) (by first | decide | omega) d_Tb_boughtOf_58
        · skip
          have hi6 : i < t := Nat.lt_of_not_le fun q => c_29 (nI_le q (by omega))
          refine z_aload_n 3 d_Tb_boughtOf_32 rfl rfl ?_
          refine z_iload_n 2 d_Tb_boughtOf_33 rfl rfl ?_
          refine z_callV0 ((m_Tb_cheapestOfE hs0 hst hT (s9 := zlft (zsetN (zcur (V (400 + si)) (V (200 + si) 3)) 8) (zbB (zsetN (zcur (V (400 + si)) (V (200 + si) 3)) 8) nk (fun k => V (100 + k) 2) i)) (zlft_lt _ _))) ym_Tb_cheapestOf qM_Tb_366 qI_Tb_cheapestOf qV_Tb_Tb_cheapestOf zc_Tb hG_Tb d_Tb_boughtOf_34 rfl (Nat.le_of_ble_eq_true rfl) ⟨Nat.zero_le _, Nat.zero_le _⟩ ⟨Nat.le_of_ble_eq_true rfl, Nat.le_of_ble_eq_true rfl⟩ ?_
          refine z_istore (L' := [(5, _), (4, _), (3, _), (2, _), (0, _), (1, _)]) d_Tb_boughtOf_37 (by decide) rfl ?_
          refine z_iload_n 2 d_Tb_boughtOf_39 rfl rfl ?_
          refine z_iload 0 d_Tb_boughtOf_40 rfl ?_
          refine z_ior d_Tb_boughtOf_42 ?_
          refine z_topv (v := nI (zbB (zsetN (zcur (V (400 + si)) (V (200 + si) 3)) 8) nk (fun k => V (100 + k) 2) (i + 1))) (zput_c hb9 (by omega)).1 ?_
          refine z_istore_n (L' := [(3, _), (5, _), (4, _), (2, _), (0, _), (1, _)]) d_Tb_boughtOf_43 rfl (by decide) rfl ?_
          refine z_iload_n 3 d_Tb_boughtOf_44 rfl rfl ?_
          refine z_iload 1 d_Tb_boughtOf_45 rfl ?_
          refine z_iconst (v := (-1)) d_Tb_boughtOf_47 (by decide) ?_
          refine z_ixor d_Tb_boughtOf_48 ?_
          refine z_iand d_Tb_boughtOf_49 ?_
          refine z_topv (v := nI (zlft (zsetN (zcur (V (400 + si)) (V (200 + si) 3)) 8) (zbB (zsetN (zcur (V (400 + si)) (V (200 + si) 3)) 8) nk (fun k => V (100 + k) 2) (i + 1)))) (zlft_c hb9 (by omega)) ?_
          refine z_istore_n (L' := [(2, _), (3, _), (5, _), (4, _), (0, _), (1, _)]) d_Tb_boughtOf_50 rfl (by decide) rfl ?_
          refine z_iinc (v := nI (i + 1)) (L' := [(4, _), (2, _), (3, _), (5, _), (0, _), (1, _)]) 3 d_Tb_boughtOf_51 rfl (nI_1 i) (by decide) rfl ?_
          refine z_goto 23 d_Tb_boughtOf_54 (by decide) ?_
          refine z_sub (L' := [(4, _), (3, _), (2, _), (0, _), (1, _)]) [0, 2, 1, 4, 5] rfl ?_
          exact ih_23 (i + 1) (by omega) (by omega)
    exact key_23 (t + 1) 0 (by omega) (by omega)
  · skip
    refine z_iconst (v := 0) d_Tb_boughtOf_16 (by decide) ?_
    exact z_iret rfl (⟨by unfold zBo; rw [if_neg c_13], rfl⟩) (by first | decide | omega) (by first | decide | omega) d_Tb_boughtOf_17
set_option maxHeartbeats 4000000 in
set_option maxRecDepth 100000 in
theorem m_Tb_boughtForE {g0 : State} {d : zD} {l : Launch} {a0 : Array Value} (hs0 : zS0 d a0 g0) (hst : l.stackTraces = false) {G : zG} {A : Nat → Nat} {D : Nat → UInt64} {V : Nat → Nat → Int32} {nk ns : Nat} (hT : zT d A D V nk ns G) {si : Nat} (hsi : si < ns) {t : Nat} (ht : V (200 + si) 0 = nI t) (ht4 : t ≤ 4) : zMet g0 d l y_Tb_boughtFor c_Tb_boughtFor 3 ((Option.some Jvm.ClassFile.FieldType.int)) 13 0 0 [.ref (A 0), .ref (A (200 + si))] (G) (zEq (some (.int (if zBo (zsetN (zcur (V (400 + si)) (V (200 + si) 3)) 8) nk t (fun k => V (100 + k) 2) = 0 then -1 else zpri (zBo (zsetN (zcur (V (400 + si)) (V (200 + si) 3)) 8) nk t (fun k => V (100 + k) 2)) (fun k => V (100 + k) 2) nk))) G) (zNo) := by
  have hG_Tb := hT.tb
  have hnk : nk ≤ 8 := hT.2.1
  have hns : ns ≤ 6 := hT.2.2.1
  have hS := hT.se hsi
  have hh9 := (zset_N (zcur (V (400 + si)) (V (200 + si) 3)) 8 (by decide)).2
  refine z_entry hs0 hst (by decide) (Nat.le_of_ble_eq_true rfl) (fun p e s m args below meth c => ?_)
  refine z_aload_n 0 d_Tb_boughtFor_0 rfl rfl ?_
  refine z_aload_n 1 d_Tb_boughtFor_1 rfl rfl ?_
  refine z_callV0 ((m_Tb_boughtOfE hs0 hst hT hsi ht ht4)) ym_Tb_boughtOf qM_Tb_392 qI_Tb_boughtOf qV_Tb_Tb_boughtOf zc_Tb hG_Tb d_Tb_boughtFor_2 rfl (Nat.le_of_ble_eq_true rfl) ⟨Nat.zero_le _, Nat.zero_le _⟩ ⟨Nat.le_of_ble_eq_true rfl, Nat.le_of_ble_eq_true rfl⟩ ?_
  refine z_istore_n (L' := [(2, _), (0, _), (1, _)]) d_Tb_boughtFor_5 rfl (by decide) rfl ?_
  refine z_iload_n 0 d_Tb_boughtFor_6 rfl rfl ?_
  refine z_if_ne 14 d_Tb_boughtFor_7 (by decide) (fun c_7 => ?_) (fun c_7 => ?_)
  · skip
    refine z_aload_n 1 d_Tb_boughtFor_14 rfl rfl ?_
    refine z_iload_n 0 d_Tb_boughtFor_15 rfl rfl ?_
    refine z_callV0 ((m_Tb_priceOfE hs0 hst hT _)) ym_Tb_priceOf qM_Tb_372 qI_Tb_priceOf qV_Tb_Tb_priceOf zc_Tb hG_Tb d_Tb_boughtFor_16 rfl (Nat.le_of_ble_eq_true rfl) ⟨Nat.zero_le _, Nat.zero_le _⟩ ⟨Nat.le_of_ble_eq_true rfl, Nat.le_of_ble_eq_true rfl⟩ ?_
    exact z_iret rfl (⟨by first | rw [if_pos c_7] | rw [if_neg c_7], rfl⟩) (by first | decide | omega) (by first | decide | omega) d_Tb_boughtFor_19
  · skip
    refine z_iconst (v := (-1)) d_Tb_boughtFor_10 (by decide) ?_
    refine z_goto 19 d_Tb_boughtFor_11 (by decide) ?_
    exact z_iret rfl (⟨by first | rw [if_pos c_7] | rw [if_neg c_7], rfl⟩) (by first | decide | omega) (by first | decide | omega) d_Tb_boughtFor_19
set_option maxHeartbeats 4000000 in
set_option maxRecDepth 100000 in
theorem m_Tb_tellOfSecretE {g0 : State} {d : zD} {l : Launch} {a0 : Array Value} (hs0 : zS0 d a0 g0) (hst : l.stackTraces = false) {G : zG} {A : Nat → Nat} {D : Nat → UInt64} {V : Nat → Nat → Int32} {nk ns : Nat} (hT : zT d A D V nk ns G) {si : Nat} (hsi : si < ns) (w : Int32) {t : Nat} (ht : V (200 + si) 0 = nI t) (ht4 : t ≤ 4) : zMet g0 d l y_Tb_tellOfSecret c_Tb_tellOfSecret 3 ((Option.some Jvm.ClassFile.FieldType.int)) 14 0 0 [.ref (A 0), .ref (A (200 + si)), .int w] (G) (zEq (some (.int (qSe V nk si t w))) G) (zNo) := by
  have hG_Tb := hT.tb
  have hnk : nk ≤ 8 := hT.2.1
  have hns : ns ≤ 6 := hT.2.2.1
  refine z_entry hs0 hst (by decide) (Nat.le_of_ble_eq_true rfl) (fun p e s m args below meth c => ?_)
  refine z_iload_n 2 d_Tb_tellOfSecret_0 rfl rfl ?_
  by_cases e0 : w = 0
  · subst e0
    refine z_tableIn 48 d_Tb_tellOfSecret_1 (by decide) (by decide) rfl (by decide) ?_
    refine z_aload_n 1 d_Tb_tellOfSecret_48 rfl rfl ?_
    refine z_get zc_Se 0 (by decide) qF_Tb_147 (hT.se hsi).1 rfl d_Tb_tellOfSecret_49 ?_
    exact z_iret rfl (⟨by unfold qSe; rw [if_pos rfl], rfl⟩) (by first | decide | omega) (by first | decide | omega) d_Tb_tellOfSecret_52
  by_cases e1 : w = 1
  · subst e1
    refine z_tableIn 53 d_Tb_tellOfSecret_1 (by decide) (by decide) rfl (by decide) ?_
    refine z_aload_n 1 d_Tb_tellOfSecret_53 rfl rfl ?_
    refine z_get zc_Se 1 (by decide) qF_Tb_357 (hT.se hsi).1 rfl d_Tb_tellOfSecret_54 ?_
    exact z_iret rfl (⟨by unfold qSe; rw [if_neg (by decide), if_pos rfl], rfl⟩) (by first | decide | omega) (by first | decide | omega) d_Tb_tellOfSecret_57
  by_cases e2 : w = 2
  · subst e2
    refine z_tableIn 58 d_Tb_tellOfSecret_1 (by decide) (by decide) rfl (by decide) ?_
    refine z_aload_n 1 d_Tb_tellOfSecret_58 rfl rfl ?_
    refine z_get zc_Se 2 (by decide) qF_Tb_360 (hT.se hsi).1 rfl d_Tb_tellOfSecret_59 ?_
    exact z_iret rfl (⟨by unfold qSe; rw [if_neg (by decide), if_neg (by decide), if_pos rfl], rfl⟩) (by first | decide | omega) (by first | decide | omega) d_Tb_tellOfSecret_62
  by_cases e3 : w = 3
  · subst e3
    refine z_tableIn 63 d_Tb_tellOfSecret_1 (by decide) (by decide) rfl (by decide) ?_
    refine z_aload_n 1 d_Tb_tellOfSecret_63 rfl rfl ?_
    refine z_get zc_Se 5 (by decide) qF_Tb_152 (hT.se hsi).1 rfl d_Tb_tellOfSecret_64 ?_
    exact z_iret rfl (⟨by unfold qSe; rw [if_neg (by decide), if_neg (by decide), if_neg (by decide), if_pos rfl], rfl⟩) (by first | decide | omega) (by first | decide | omega) d_Tb_tellOfSecret_67
  by_cases e4 : w = 4
  · subst e4
    refine z_tableIn 68 d_Tb_tellOfSecret_1 (by decide) (by decide) rfl (by decide) ?_
    refine z_aload_n 1 d_Tb_tellOfSecret_68 rfl rfl ?_
    refine z_callV0 (m_Se_currentSet hs0 hst (hT.se hsi)) ym_Se_currentSet qM_Tb_144 qI_Se_currentSet qV_Se_Se_currentSet zc_Se (hT.se hsi).1 d_Tb_tellOfSecret_69 rfl (Nat.le_of_ble_eq_true rfl) ⟨Nat.zero_le _, Nat.zero_le _⟩ ⟨Nat.le_of_ble_eq_true rfl, Nat.le_of_ble_eq_true rfl⟩ ?_
    exact z_iret rfl (⟨by unfold qSe; rw [if_neg (by decide), if_neg (by decide), if_neg (by decide), if_neg (by decide), if_pos rfl], rfl⟩) (by first | decide | omega) (by first | decide | omega) d_Tb_tellOfSecret_72
  by_cases e5 : w = 5
  · subst e5
    refine z_tableIn 73 d_Tb_tellOfSecret_1 (by decide) (by decide) rfl (by decide) ?_
    refine z_aload_n 1 d_Tb_tellOfSecret_73 rfl rfl ?_
    refine z_callV0 (m_Se_staleSet hs0 hst (hT.se hsi)) ym_Se_staleSet qM_Tb_158 qI_Se_staleSet qV_Se_Se_staleSet zc_Se (hT.se hsi).1 d_Tb_tellOfSecret_74 rfl (Nat.le_of_ble_eq_true rfl) ⟨Nat.zero_le _, Nat.zero_le _⟩ ⟨Nat.le_of_ble_eq_true rfl, Nat.le_of_ble_eq_true rfl⟩ ?_
    exact z_iret rfl (⟨by unfold qSe; rw [if_neg (by decide), if_neg (by decide), if_neg (by decide), if_neg (by decide), if_neg (by decide), if_pos rfl], rfl⟩) (by first | decide | omega) (by first | decide | omega) d_Tb_tellOfSecret_77
  by_cases e6 : w = 6
  · subst e6
    refine z_tableIn 78 d_Tb_tellOfSecret_1 (by decide) (by decide) rfl (by decide) ?_
    refine z_aload_n 1 d_Tb_tellOfSecret_78 rfl rfl ?_
    refine z_get zc_Se 6 (by decide) qF_Tb_213 (hT.se hsi).1 rfl d_Tb_tellOfSecret_79 ?_
    refine z_callS0 (m_In_bitCount hs0 hst _) ym_In_bitCount qM_Tb_105 qS_In_bitCount d_Tb_tellOfSecret_82 rfl (Nat.le_of_ble_eq_true rfl) ⟨Nat.zero_le _, Nat.zero_le _⟩ ⟨Nat.le_of_ble_eq_true rfl, Nat.le_of_ble_eq_true rfl⟩ ?_
    exact z_iret rfl (⟨by unfold qSe; rw [if_neg (by decide), if_neg (by decide), if_neg (by decide), if_neg (by decide), if_neg (by decide), if_neg (by decide), if_pos rfl], rfl⟩) (by first | decide | omega) (by first | decide | omega) d_Tb_tellOfSecret_85
  by_cases e7 : w = 7
  · subst e7
    refine z_tableIn 86 d_Tb_tellOfSecret_1 (by decide) (by decide) rfl (by decide) ?_
    refine z_aload_n 0 d_Tb_tellOfSecret_86 rfl rfl ?_
    refine z_aload_n 1 d_Tb_tellOfSecret_87 rfl rfl ?_
    refine z_callV0 ((m_Tb_boughtForE hs0 hst hT hsi ht ht4)) ym_Tb_boughtFor qM_Tb_389 qI_Tb_boughtFor qV_Tb_Tb_boughtFor zc_Tb hG_Tb d_Tb_tellOfSecret_88 rfl (Nat.le_of_ble_eq_true rfl) ⟨Nat.zero_le _, Nat.zero_le _⟩ ⟨Nat.le_of_ble_eq_true rfl, Nat.le_of_ble_eq_true rfl⟩ ?_
    exact z_iret rfl (⟨by unfold qSe; rw [if_neg (show ¬ (7 : Int32) = 0 by decide), if_neg (show ¬ (7 : Int32) = 1 by decide), if_neg (show ¬ (7 : Int32) = 2 by decide), if_neg (show ¬ (7 : Int32) = 3 by decide), if_neg (show ¬ (7 : Int32) = 4 by decide), if_neg (show ¬ (7 : Int32) = 5 by decide), if_neg (show ¬ (7 : Int32) = 6 by decide), if_pos (show (7 : Int32) = 7 from rfl)], rfl⟩) (by first | decide | omega) (by first | decide | omega) d_Tb_tellOfSecret_91
  have ed : w.toInt < 0 ∨ 7 < w.toInt := by
    simp only [← Int32.toInt_inj, Int32.reduceToInt] at e0 e1 e2 e3 e4 e5 e6 e7
    omega
  · skip
    refine z_tableOut 92 d_Tb_tellOfSecret_1 (ed) (by decide) ?_
    refine z_aload_n 0 d_Tb_tellOfSecret_92 rfl rfl ?_
    refine z_aload_n 1 d_Tb_tellOfSecret_93 rfl rfl ?_
    refine z_callV0 ((m_Tb_boughtOfE hs0 hst hT hsi ht ht4)) ym_Tb_boughtOf qM_Tb_392 qI_Tb_boughtOf qV_Tb_Tb_boughtOf zc_Tb hG_Tb d_Tb_tellOfSecret_94 rfl (Nat.le_of_ble_eq_true rfl) ⟨Nat.zero_le _, Nat.zero_le _⟩ ⟨Nat.le_of_ble_eq_true rfl, Nat.le_of_ble_eq_true rfl⟩ ?_
    exact z_iret rfl (⟨by unfold qSe; rw [if_neg (fun e => by subst e; revert ed; decide), if_neg (fun e => by subst e; revert ed; decide), if_neg (fun e => by subst e; revert ed; decide), if_neg (fun e => by subst e; revert ed; decide), if_neg (fun e => by subst e; revert ed; decide), if_neg (fun e => by subst e; revert ed; decide), if_neg (fun e => by subst e; revert ed; decide), if_neg (fun e => by subst e; revert ed; decide)], rfl⟩) (by first | decide | omega) (by first | decide | omega) d_Tb_tellOfSecret_97

/-! what is asked, exactly: the class's answer by T, what is thrown by P; the reference's by T -/
/-- what is told of a share: class, reference -/
def qSh (V : Nat → Nat → Int32) (si ki : Nat) (w : Int32) : Int32 := if V (400 + si) ki ≠ -1 then (if w = 0 then V (300 + si) ki else if w = 1 then V (400 + si) ki else zr97 (V (300 + si) ki + V (100 + ki) 4)) else -1
def qSm (W : Nat → Nat → Int32) (si ki : Nat) (w : Int32) : Int32 := if w = 0 then W (300 + si) ki else if w = 1 then W (400 + si) ki else if W (300 + si) ki = -1 then -1 else mgv W si ki
def tSh (V : Nat → Nat → Int32) (nk ns : Nat) (x z w v : Int32) : Prop := ∃ si, si < ns ∧ x = nI si ∧ ∃ ki, ki < nk ∧ z = nI ki ∧ zin w 0 2 = true ∧ v = qSh V si ki w
def pSh (nk ns : Nat) (x z w kk : Int32) : Prop := ((zoo ns x ∨ zoo nk z) ∧ kk = 1) ∨ (∃ si, si < ns ∧ x = nI si ∧ ∃ ki, ki < nk ∧ z = nI ki ∧ zin w 0 2 = false ∧ kk = 2)
def rSh (nk ns : Nat) (x z w t b : Int32) (W : Nat → Nat → Int32) : Prop := ((zin x 0 (nI ns - 1) = false ∨ zin z 0 (nI nk - 1) = false) ∧ t = 1) ∨ (∃ si, si < ns ∧ x = nI si ∧ ∃ ki, ki < nk ∧ z = nI ki ∧ ((zin w 0 2 = false ∧ t = 2) ∨ (zin w 0 2 = true ∧ t = 0 ∧ b = qSm W si ki w)))

set_option maxHeartbeats 4000000 in
set_option maxRecDepth 100000 in
theorem m_Tb_tellOfShareE {g0 : State} {d : zD} {l : Launch} {a0 : Array Value} (hs0 : zS0 d a0 g0) (hst : l.stackTraces = false) {G : zG} {A : Nat → Nat} {D : Nat → UInt64} {V : Nat → Nat → Int32} {nk ns : Nat} (hT : zT d A D V nk ns G) {si : Nat} (hsi : si < ns) {ki : Nat} (hki : ki < nk) (w : Int32) : zMet g0 d l y_Tb_tellOfShare c_Tb_tellOfShare 4 ((Option.some Jvm.ClassFile.FieldType.int)) 3 0 0 [.ref (A 0), .ref (A (200 + si)), .ref (A (100 + ki)), .int w] (G) (zEq (some (.int (qSh V si ki w))) G) (zNo) := by
  have hG_Tb := hT.tb
  have hnk : nk ≤ 8 := hT.2.1
  have hns : ns ≤ 6 := hT.2.2.1
  have hk8 : ki < 8 := by omega
  refine z_entry hs0 hst (by decide) (Nat.le_of_ble_eq_true rfl) (fun p e s m args below meth c => ?_)
  refine z_aload_n 1 d_Tb_tellOfShare_0 rfl rfl ?_
  refine z_aload_n 2 d_Tb_tellOfShare_1 rfl rfl ?_
  refine z_get zc_Ke 0 (by decide) qF_Tb_383 (hT.ke hki) rfl d_Tb_tellOfShare_2 ?_
  rw [hT.kn hki]
  refine z_callV0 (m_Se_has hs0 hst (hT.se hsi) hk8) ym_Se_has qM_Tb_270 qI_Se_has qV_Se_Se_has zc_Se (hT.se hsi).1 d_Tb_tellOfShare_5 rfl (Nat.le_of_ble_eq_true rfl) ⟨Nat.zero_le _, Nat.zero_le _⟩ ⟨Nat.le_of_ble_eq_true rfl, Nat.le_of_ble_eq_true rfl⟩ ?_
  refine z_if_ne 13 d_Tb_tellOfShare_8 (by decide) (fun c_8 => ?_) (fun c_8 => ?_)
  · skip
    refine z_iload_n 3 d_Tb_tellOfShare_13 rfl rfl ?_
    by_cases e0 : w = 0
    · subst e0
      refine z_lookup (off := 26) 40 d_Tb_tellOfShare_14 (by decide) (by decide +kernel) (by decide) ?_
      refine z_aload_n 1 d_Tb_tellOfShare_40 rfl rfl ?_
      refine z_aload_n 2 d_Tb_tellOfShare_41 rfl rfl ?_
      refine z_get zc_Ke 0 (by decide) qF_Tb_383 (hT.ke hki) rfl d_Tb_tellOfShare_42 ?_
      rw [hT.kn hki]
      refine z_callV0 (m_Se_shareOf hs0 hst (hT.se hsi) hk8) ym_Se_shareOf qM_Tb_155 qI_Se_shareOf qV_Se_Se_shareOf zc_Se (hT.se hsi).1 d_Tb_tellOfShare_45 rfl (Nat.le_of_ble_eq_true rfl) ⟨Nat.zero_le _, Nat.zero_le _⟩ ⟨Nat.le_of_ble_eq_true rfl, Nat.le_of_ble_eq_true rfl⟩ ?_
      exact z_iret rfl (⟨by unfold qSh; rw [if_pos (of_decide_eq_true ((zb_n0 _).mp c_8)), if_pos rfl], rfl⟩) (by first | decide | omega) (by first | decide | omega) d_Tb_tellOfShare_48
    by_cases e1 : w = 1
    · subst e1
      refine z_lookup (off := 35) 49 d_Tb_tellOfShare_14 (by decide) (by decide +kernel) (by decide) ?_
      refine z_aload_n 1 d_Tb_tellOfShare_49 rfl rfl ?_
      refine z_aload_n 2 d_Tb_tellOfShare_50 rfl rfl ?_
      refine z_get zc_Ke 0 (by decide) qF_Tb_383 (hT.ke hki) rfl d_Tb_tellOfShare_51 ?_
      rw [hT.kn hki]
      refine z_callV0 (m_Se_epochOf hs0 hst (hT.se hsi) hk8) ym_Se_epochOf qM_Tb_395 qI_Se_epochOf qV_Se_Se_epochOf zc_Se (hT.se hsi).1 d_Tb_tellOfShare_54 rfl (Nat.le_of_ble_eq_true rfl) ⟨Nat.zero_le _, Nat.zero_le _⟩ ⟨Nat.le_of_ble_eq_true rfl, Nat.le_of_ble_eq_true rfl⟩ ?_
      exact z_iret rfl (⟨by unfold qSh; rw [if_pos (of_decide_eq_true ((zb_n0 _).mp c_8)), if_neg (by decide), if_pos rfl], rfl⟩) (by first | decide | omega) (by first | decide | omega) d_Tb_tellOfShare_57
    refine z_lookup (off := 44) 58 d_Tb_tellOfShare_14 (by decide) ((lv_osw e0 rfl).trans ((lv_osw e1 rfl).trans (rfl))) (by decide) ?_
    refine z_aload_n 1 d_Tb_tellOfShare_58 rfl rfl ?_
    refine z_aload_n 2 d_Tb_tellOfShare_59 rfl rfl ?_
    refine z_get zc_Ke 0 (by decide) qF_Tb_383 (hT.ke hki) rfl d_Tb_tellOfShare_60 ?_
    rw [hT.kn hki]
    refine z_callV0 (m_Se_shareOf hs0 hst (hT.se hsi) hk8) ym_Se_shareOf qM_Tb_155 qI_Se_shareOf qV_Se_Se_shareOf zc_Se (hT.se hsi).1 d_Tb_tellOfShare_63 rfl (Nat.le_of_ble_eq_true rfl) ⟨Nat.zero_le _, Nat.zero_le _⟩ ⟨Nat.le_of_ble_eq_true rfl, Nat.le_of_ble_eq_true rfl⟩ ?_
    refine z_aload_n 2 d_Tb_tellOfShare_66 rfl rfl ?_
    refine z_get zc_Ke 4 (by decide) qF_Tb_96 (hT.ke hki) rfl d_Tb_tellOfShare_67 ?_
    refine z_iadd d_Tb_tellOfShare_70 ?_
    refine z_bipush (v := 97) d_Tb_tellOfShare_71 (by decide) ?_
    refine z_irem d_Tb_tellOfShare_73 (by decide) ?_
    exact z_iret rfl (⟨by unfold qSh; rw [if_pos (of_decide_eq_true ((zb_n0 _).mp c_8)), if_neg e0, if_neg e1]; rfl, rfl⟩) (by first | decide | omega) (by first | decide | omega) d_Tb_tellOfShare_74
  · skip
    refine z_iconst (v := (-1)) d_Tb_tellOfShare_11 (by decide) ?_
    exact z_iret rfl (⟨by unfold qSh; rw [if_neg (of_decide_eq_false ((zb_0 _).mp c_8))], rfl⟩) (by first | decide | omega) (by first | decide | omega) d_Tb_tellOfShare_12

/-! what is asked, exactly: the class's answer by T, what is thrown by P; the reference's by T -/
/-- what is told of a group laid and searched -/
def qGr (V : Nat → Nat → Int32) (nk si : Nat) (w : Int32) : Int32 := if w = 0 then zbc (V 12 1) else if w = 1 then zb (zlw V nk si (V 12 1 >>> ((1 : Int32) &&& 31))) else if w = 2 then zb (zgood_ (V 12 0) (V 12 1) (V 12 3)) else if w = 3 then (if zgood_ (V 12 0) (V 12 1) (V 12 3) = true then zth (V 13) (V 14) (V 12 2) 0 else -1) else if w = 4 then (if zgood_ (V 12 0) (V 12 1) (V 12 3) = true then (V 12 1 &&& (V 12 3 ^^^ (-1))) >>> ((1 : Int32) &&& 31) else 0) else zbc (V 12 3)

def tWd (V : Nat → Nat → Int32) (nk ns : Nat) (x set w v : Int32) : Prop := ∃ si, si < ns ∧ x = nI si ∧ zsetok nk set = true ∧ zin w 0 5 = true ∧ ∃ V4, zDd V V4 nk si set ∧ v = qGr V4 nk si w
def pWd (nk ns : Nat) (x set w kk : Int32) : Prop := (zoo ns x ∧ kk = 1) ∨ (∃ si, si < ns ∧ x = nI si ∧ (zsetok nk set = false ∨ zin w 0 5 = false) ∧ kk = 2)

set_option maxHeartbeats 4000000 in
set_option maxRecDepth 100000 in
theorem m_Tb_tellOfGroupE {g0 : State} {d : zD} {l : Launch} {a0 : Array Value} (hs0 : zS0 d a0 g0) (hst : l.stackTraces = false) {G : zG} {A : Nat → Nat} {D : Nat → UInt64} {V : Nat → Nat → Int32} {nk ns : Nat} (hT : zT d A D V nk ns G) {si : Nat} (hsi : si < ns) (w : Int32) : zMet g0 d l y_Tb_tellOfGroup c_Tb_tellOfGroup 3 ((Option.some Jvm.ClassFile.FieldType.int)) 13 0 0 [.ref (A 0), .ref (A (200 + si)), .int w] (G) (zEq (some (.int (qGr V nk si w))) G) (zNo) := by
  have hG_Tb := hT.tb
  have hnk : nk ≤ 8 := hT.2.1
  have hns : ns ≤ 6 := hT.2.2.1
  refine z_entry hs0 hst (by decide) (Nat.le_of_ble_eq_true rfl) (fun p e s m args below meth c => ?_)
  refine z_iload_n 2 d_Tb_tellOfGroup_0 rfl rfl ?_
  by_cases e0 : w = 0
  · subst e0
    refine z_tableIn 36 d_Tb_tellOfGroup_1 (by decide) (by decide) rfl (by decide) ?_
    refine z_aload_n 0 d_Tb_tellOfGroup_36 rfl rfl ?_
    refine z_get zc_Tb 4 (by decide) qF_Tb_36 hG_Tb rfl d_Tb_tellOfGroup_37 ?_
    refine z_callV0 (m_Gr_size hs0 hst hT.gA) ym_Gr_size qM_Tb_210 qI_Gr_size qV_Gr_Gr_size zc_Gr hT.gr d_Tb_tellOfGroup_40 rfl (Nat.le_of_ble_eq_true rfl) ⟨Nat.zero_le _, Nat.zero_le _⟩ ⟨Nat.le_of_ble_eq_true rfl, Nat.le_of_ble_eq_true rfl⟩ ?_
    exact z_iret rfl (⟨by unfold qGr; rw [if_pos rfl], rfl⟩) (by first | decide | omega) (by first | decide | omega) d_Tb_tellOfGroup_43
  by_cases e1 : w = 1
  · subst e1
    refine z_tableIn 44 d_Tb_tellOfGroup_1 (by decide) (by decide) rfl (by decide) ?_
    refine z_aload_n 0 d_Tb_tellOfGroup_44 rfl rfl ?_
    refine z_aload_n 1 d_Tb_tellOfGroup_45 rfl rfl ?_
    refine z_aload_n 0 d_Tb_tellOfGroup_46 rfl rfl ?_
    refine z_get zc_Tb 4 (by decide) qF_Tb_36 hG_Tb rfl d_Tb_tellOfGroup_47 ?_
    refine z_callV0 (m_Gr_members hs0 hst hT.gA) ym_Gr_members qM_Tb_200 qI_Gr_members qV_Gr_Gr_members zc_Gr hT.gr d_Tb_tellOfGroup_50 rfl (Nat.le_of_ble_eq_true rfl) ⟨Nat.zero_le _, Nat.zero_le _⟩ ⟨Nat.le_of_ble_eq_true rfl, Nat.le_of_ble_eq_true rfl⟩ ?_
    refine z_callV0 ((m_Tb_isLawfulE hs0 hst hT (hT.se hsi) _)) ym_Tb_isLawful qM_Tb_220 qI_Tb_isLawful qV_Tb_Tb_isLawful zc_Tb hG_Tb d_Tb_tellOfGroup_53 rfl (Nat.le_of_ble_eq_true rfl) ⟨Nat.zero_le _, Nat.zero_le _⟩ ⟨Nat.le_of_ble_eq_true rfl, Nat.le_of_ble_eq_true rfl⟩ ?_
    refine z_if_eq 63 d_Tb_tellOfGroup_56 (by decide) (fun c_56 => ?_) (fun c_56 => ?_)
    · skip
      refine z_iconst (v := 0) d_Tb_tellOfGroup_63 (by decide) ?_
      exact z_iret rfl (⟨by unfold qGr; rw [if_neg (by decide), if_pos rfl]; first | exact congrArg (fun b => some (Value.int (zb b))) ((zb_0 _).mp c_56).symm | exact congrArg (fun b => some (Value.int (zb b))) ((zb_n0 _).mp c_56).symm, rfl⟩) (by first | decide | omega) (by first | decide | omega) d_Tb_tellOfGroup_64
    · skip
      refine z_iconst (v := 1) d_Tb_tellOfGroup_59 (by decide) ?_
      refine z_goto 64 d_Tb_tellOfGroup_60 (by decide) ?_
      exact z_iret rfl (⟨by unfold qGr; rw [if_neg (by decide), if_pos rfl]; first | exact congrArg (fun b => some (Value.int (zb b))) ((zb_0 _).mp c_56).symm | exact congrArg (fun b => some (Value.int (zb b))) ((zb_n0 _).mp c_56).symm, rfl⟩) (by first | decide | omega) (by first | decide | omega) d_Tb_tellOfGroup_64
  by_cases e2 : w = 2
  · subst e2
    refine z_tableIn 65 d_Tb_tellOfGroup_1 (by decide) (by decide) rfl (by decide) ?_
    refine z_aload_n 0 d_Tb_tellOfGroup_65 rfl rfl ?_
    refine z_get zc_Tb 4 (by decide) qF_Tb_36 hG_Tb rfl d_Tb_tellOfGroup_66 ?_
    refine z_callV0 (m_Gr_isGood hs0 hst hT.gA) ym_Gr_isGood qM_Tb_191 qI_Gr_isGood qV_Gr_Gr_isGood zc_Gr hT.gr d_Tb_tellOfGroup_69 rfl (Nat.le_of_ble_eq_true rfl) ⟨Nat.zero_le _, Nat.zero_le _⟩ ⟨Nat.le_of_ble_eq_true rfl, Nat.le_of_ble_eq_true rfl⟩ ?_
    refine z_if_eq 79 d_Tb_tellOfGroup_72 (by decide) (fun c_72 => ?_) (fun c_72 => ?_)
    · skip
      refine z_iconst (v := 0) d_Tb_tellOfGroup_79 (by decide) ?_
      exact z_iret rfl (⟨by unfold qGr; rw [if_neg (by decide), if_neg (by decide), if_pos rfl]; first | exact congrArg (fun b => some (Value.int (zb b))) ((zb_0 _).mp c_72).symm | exact congrArg (fun b => some (Value.int (zb b))) ((zb_n0 _).mp c_72).symm, rfl⟩) (by first | decide | omega) (by first | decide | omega) d_Tb_tellOfGroup_80
    · skip
      refine z_iconst (v := 1) d_Tb_tellOfGroup_75 (by decide) ?_
      refine z_goto 80 d_Tb_tellOfGroup_76 (by decide) ?_
      exact z_iret rfl (⟨by unfold qGr; rw [if_neg (by decide), if_neg (by decide), if_pos rfl]; first | exact congrArg (fun b => some (Value.int (zb b))) ((zb_0 _).mp c_72).symm | exact congrArg (fun b => some (Value.int (zb b))) ((zb_n0 _).mp c_72).symm, rfl⟩) (by first | decide | omega) (by first | decide | omega) d_Tb_tellOfGroup_80
  by_cases e3 : w = 3
  · subst e3
    refine z_tableIn 81 d_Tb_tellOfGroup_1 (by decide) (by decide) rfl (by decide) ?_
    refine z_aload_n 0 d_Tb_tellOfGroup_81 rfl rfl ?_
    refine z_get zc_Tb 4 (by decide) qF_Tb_36 hG_Tb rfl d_Tb_tellOfGroup_82 ?_
    refine z_callV0 (m_Gr_isGood hs0 hst hT.gA) ym_Gr_isGood qM_Tb_191 qI_Gr_isGood qV_Gr_Gr_isGood zc_Gr hT.gr d_Tb_tellOfGroup_85 rfl (Nat.le_of_ble_eq_true rfl) ⟨Nat.zero_le _, Nat.zero_le _⟩ ⟨Nat.le_of_ble_eq_true rfl, Nat.le_of_ble_eq_true rfl⟩ ?_
    refine z_if_eq 102 d_Tb_tellOfGroup_88 (by decide) (fun c_88 => ?_) (fun c_88 => ?_)
    · skip
      refine z_iconst (v := (-1)) d_Tb_tellOfGroup_102 (by decide) ?_
      exact z_iret rfl (⟨by unfold qGr; rw [if_neg (by decide), if_neg (by decide), if_neg (by decide), if_pos rfl]; first | rw [if_pos ((zb_n0 _).mp c_88)] | rw [if_neg (Bool.eq_false_iff.mp ((zb_0 _).mp c_88))], rfl⟩) (by first | decide | omega) (by first | decide | omega) d_Tb_tellOfGroup_103
    · skip
      refine z_aload_n 0 d_Tb_tellOfGroup_91 rfl rfl ?_
      refine z_get zc_Tb 4 (by decide) qF_Tb_36 hG_Tb rfl d_Tb_tellOfGroup_92 ?_
      refine z_iconst (v := 0) d_Tb_tellOfGroup_95 (by decide) ?_
      refine z_callV0 (m_Gr_curveAt hs0 hst hT.gA _) ym_Gr_curveAt qM_Tb_197 qI_Gr_curveAt qV_Gr_Gr_curveAt zc_Gr hT.gr d_Tb_tellOfGroup_96 rfl (Nat.le_of_ble_eq_true rfl) ⟨Nat.zero_le _, Nat.zero_le _⟩ ⟨Nat.le_of_ble_eq_true rfl, Nat.le_of_ble_eq_true rfl⟩ ?_
      refine z_goto 103 d_Tb_tellOfGroup_99 (by decide) ?_
      exact z_iret rfl (⟨by unfold qGr; rw [if_neg (by decide), if_neg (by decide), if_neg (by decide), if_pos rfl]; first | rw [if_pos ((zb_n0 _).mp c_88)] | rw [if_neg (Bool.eq_false_iff.mp ((zb_0 _).mp c_88))], rfl⟩) (by first | decide | omega) (by first | decide | omega) d_Tb_tellOfGroup_103
  by_cases e4 : w = 4
  · subst e4
    refine z_tableIn 104 d_Tb_tellOfGroup_1 (by decide) (by decide) rfl (by decide) ?_
    refine z_aload_n 0 d_Tb_tellOfGroup_104 rfl rfl ?_
    refine z_get zc_Tb 4 (by decide) qF_Tb_36 hG_Tb rfl d_Tb_tellOfGroup_105 ?_
    refine z_callV0 (m_Gr_isGood hs0 hst hT.gA) ym_Gr_isGood qM_Tb_191 qI_Gr_isGood qV_Gr_Gr_isGood zc_Gr hT.gr d_Tb_tellOfGroup_108 rfl (Nat.le_of_ble_eq_true rfl) ⟨Nat.zero_le _, Nat.zero_le _⟩ ⟨Nat.le_of_ble_eq_true rfl, Nat.le_of_ble_eq_true rfl⟩ ?_
    refine z_if_eq 124 d_Tb_tellOfGroup_111 (by decide) (fun c_111 => ?_) (fun c_111 => ?_)
    · skip
      refine z_iconst (v := 0) d_Tb_tellOfGroup_124 (by decide) ?_
      exact z_iret rfl (⟨by unfold qGr; rw [if_neg (by decide), if_neg (by decide), if_neg (by decide), if_neg (by decide), if_pos rfl]; first | rw [if_pos ((zb_n0 _).mp c_111)] | rw [if_neg (Bool.eq_false_iff.mp ((zb_0 _).mp c_111))], rfl⟩) (by first | decide | omega) (by first | decide | omega) d_Tb_tellOfGroup_125
    · skip
      refine z_aload_n 0 d_Tb_tellOfGroup_114 rfl rfl ?_
      refine z_get zc_Tb 4 (by decide) qF_Tb_36 hG_Tb rfl d_Tb_tellOfGroup_115 ?_
      refine z_callV0 (m_Gr_liars hs0 hst hT.gA) ym_Gr_liars qM_Tb_224 qI_Gr_liars qV_Gr_Gr_liars zc_Gr hT.gr d_Tb_tellOfGroup_118 rfl (Nat.le_of_ble_eq_true rfl) ⟨Nat.zero_le _, Nat.zero_le _⟩ ⟨Nat.le_of_ble_eq_true rfl, Nat.le_of_ble_eq_true rfl⟩ ?_
      refine z_goto 125 d_Tb_tellOfGroup_121 (by decide) ?_
      exact z_iret rfl (⟨by unfold qGr; rw [if_neg (by decide), if_neg (by decide), if_neg (by decide), if_neg (by decide), if_pos rfl]; first | rw [if_pos ((zb_n0 _).mp c_111)] | rw [if_neg (Bool.eq_false_iff.mp ((zb_0 _).mp c_111))], rfl⟩) (by first | decide | omega) (by first | decide | omega) d_Tb_tellOfGroup_125
  have ed : w.toInt < 0 ∨ 4 < w.toInt := by
    simp only [← Int32.toInt_inj, Int32.reduceToInt] at e0 e1 e2 e3 e4
    omega
  · skip
    refine z_tableOut 126 d_Tb_tellOfGroup_1 (ed) (by decide) ?_
    refine z_aload_n 0 d_Tb_tellOfGroup_126 rfl rfl ?_
    refine z_get zc_Tb 4 (by decide) qF_Tb_36 hG_Tb rfl d_Tb_tellOfGroup_127 ?_
    refine z_callV0 (m_Gr_agreed hs0 hst hT.gA) ym_Gr_agreed qM_Tb_413 qI_Gr_agreed qV_Gr_Gr_agreed zc_Gr hT.gr d_Tb_tellOfGroup_130 rfl (Nat.le_of_ble_eq_true rfl) ⟨Nat.zero_le _, Nat.zero_le _⟩ ⟨Nat.le_of_ble_eq_true rfl, Nat.le_of_ble_eq_true rfl⟩ ?_
    exact z_iret rfl (⟨by unfold qGr; rw [if_neg (fun e => by subst e; revert ed; decide), if_neg (fun e => by subst e; revert ed; decide), if_neg (fun e => by subst e; revert ed; decide), if_neg (fun e => by subst e; revert ed; decide), if_neg (fun e => by subst e; revert ed; decide)], rfl⟩) (by first | decide | omega) (by first | decide | omega) d_Tb_tellOfGroup_133

/-! what is asked, exactly: the class's answer by T, what is thrown by P; the reference's by T -/
/-- the best of the first n sets -/
def zfB (c : Nat → Bool) (l : Nat → Nat → Bool) : Nat → Nat
  | 0 => 0
  | n + 1 => if c (n + 1) = true ∧ (zfB c l n = 0 ∨ l (n + 1) (zfB c l n) = true) then n + 1 else zfB c l n
theorem zfB_le (c : Nat → Bool) (l : Nat → Nat → Bool) : ∀ n, zfB c l n ≤ n
  | 0 => Nat.le_refl _
  | n + 1 => by
    have := zfB_le c l n
    unfold zfB
    split <;> omega
theorem zfB_t {c : Nat → Bool} {l : Nat → Nat → Bool} {n : Nat} (h : c (n + 1) = true) (h2 : zfB c l n = 0 ∨ l (n + 1) (zfB c l n) = true) : zfB c l (n + 1) = n + 1 := if_pos ⟨h, h2⟩
theorem zfB_f {c : Nat → Bool} {l : Nat → Nat → Bool} {n : Nat} (h : c (n + 1) = false ∨ (zfB c l n ≠ 0 ∧ l (n + 1) (zfB c l n) = false)) : zfB c l (n + 1) = zfB c l n := if_neg (fun q => h.elim (fun e => by rw [q.1] at e; cases e) (fun e => q.2.elim e.1 (fun z => by rw [e.2] at z; cases z)))
theorem zfB_congr {c1 c2 : Nat → Bool} {l1 l2 : Nat → Nat → Bool} : ∀ n, (∀ s, 1 ≤ s → s ≤ n → c1 s = c2 s) → (∀ s b, 1 ≤ s → s ≤ n → 1 ≤ b → b ≤ n → l1 s b = l2 s b) → zfB c1 l1 n = zfB c2 l2 n
  | 0, _, _ => rfl
  | n + 1, hc, hl => by
    have ih := zfB_congr n (fun s h1 h2 => hc s h1 (by omega)) (fun s b h1 h2 h3 h4 => hl s b h1 (by omega) h3 (by omega))
    have hb := zfB_le c2 l2 n
    unfold zfB
    rw [ih, hc (n + 1) (by omega) (Nat.le_refl _)]
    by_cases e : zfB c2 l2 n = 0
    · rw [e]
      by_cases d : c2 (n + 1) = true
      · rw [if_pos ⟨d, Or.inl rfl⟩, if_pos ⟨d, Or.inl rfl⟩]
      · rw [if_neg (fun q => d q.1), if_neg (fun q => d q.1)]
    · rw [hl (n + 1) (zfB c2 l2 n) (by omega) (Nat.le_refl _) (by omega) (by omega)]
theorem zfB_ext {c : Nat → Bool} {l : Nat → Nat → Bool} {n : Nat} : ∀ m, n ≤ m → (∀ s, n < s → s ≤ m → c s = false) → zfB c l m = zfB c l n
  | 0, h, _ => by rw [Nat.le_zero.mp h]
  | m + 1, h, hf => by
    by_cases e : n = m + 1
    · rw [e]
    · rw [zfB_f (Or.inl (hf (m + 1) (by omega) (Nat.le_refl _)))]
      exact zfB_ext m (by omega) (fun s h1 h2 => hf s h1 (by omega))
theorem fw_1 {A B C : Prop} [Decidable A] [Decidable B] [Decidable C] (h : ¬ A) : (decide A && (decide B && decide C)) = false := by rw [decide_eq_false h, Bool.false_and]
theorem fw_2 {A B C : Prop} [Decidable A] [Decidable B] [Decidable C] (h : ¬ B) : (decide A && (decide B && decide C)) = false := by rw [decide_eq_false h, Bool.false_and, Bool.and_false]
theorem fw_3 {A B C : Prop} [Decidable A] [Decidable B] [Decidable C] (h : ¬ C) : (decide A && (decide B && decide C)) = false := by rw [decide_eq_false h, Bool.and_false, Bool.and_false]
theorem fw_t {A B C : Prop} [Decidable A] [Decidable B] [Decidable C] (h : A) (h2 : B) (h3 : C) : (decide A && (decide B && decide C)) = true := by rw [decide_eq_true h, decide_eq_true h2, decide_eq_true h3]; rfl
theorem fl_1 {A B C : Prop} [Decidable A] [Decidable B] [Decidable C] (h : A) : (decide A || (decide B && decide C)) = true := by rw [decide_eq_true h, Bool.true_or]
theorem fl_2 {A B C : Prop} [Decidable A] [Decidable B] [Decidable C] (h : ¬ A) (h2 : ¬ B) : (decide A || (decide B && decide C)) = false := by rw [decide_eq_false h, decide_eq_false h2, Bool.false_and, Bool.false_or]
theorem fl_3 {A B C : Prop} [Decidable A] [Decidable B] [Decidable C] (h : ¬ A) (h2 : B) (h3 : C) : (decide A || (decide B && decide C)) = true := by rw [decide_eq_false h, decide_eq_true h2, decide_eq_true h3]; rfl
theorem fl_4 {A B C : Prop} [Decidable A] [Decidable B] [Decidable C] (h : ¬ A) (h3 : ¬ C) : (decide A || (decide B && decide C)) = false := by rw [decide_eq_false h, decide_eq_false h3, Bool.and_false, Bool.false_or]

def fwl (V : Nat → Nat → Int32) (nk : Nat) (s b : Int32) : Bool := decide (zbc s - zbc b < 0) || (decide (zbc s - zbc b = 0) && decide (zpri s (fun k => V (100 + k) 2) nk < zpri b (fun k => V (100 + k) 2) nk))
def fwc (V : Nat → Nat → Int32) (nk si s : Nat) : Bool := decide (nI s &&& (nI (zsetN (zcur (V (400 + si)) (V (200 + si) 3)) 8) ^^^ (-1)) = 0) && (decide (V (200 + si) 0 ≤ zbc (nI s)) && decide (V (200 + si) 1 ≤ zbc (zzo (nI s) (fun k => V (100 + k) 1) nk)))
def qFw (V : Nat → Nat → Int32) (nk si : Nat) : Int32 := nI (zfB (fwc V nk si) (fun s b => fwl V nk (nI s) (nI b)) (zsetN (zcur (V (400 + si)) (V (200 + si) 3)) 8))
def tFw (V : Nat → Nat → Int32) (nk ns : Nat) (x v : Int32) : Prop := ∃ si, si < ns ∧ x = nI si ∧ v = qFw V nk si
def pFw (ns : Nat) (x kk : Int32) : Prop := zoo ns x ∧ kk = 1

set_option maxHeartbeats 4000000 in
set_option maxRecDepth 100000 in
theorem m_Tb_isLessE {g0 : State} {d : zD} {l : Launch} {a0 : Array Value} (hs0 : zS0 d a0 g0) (hst : l.stackTraces = false) {G : zG} {A : Nat → Nat} {D : Nat → UInt64} {V : Nat → Nat → Int32} {nk ns : Nat} (hT : zT d A D V nk ns G) (set oth : Int32) : zMet g0 d l y_Tb_isLess c_Tb_isLess 4 ((Option.some Jvm.ClassFile.FieldType.boolean)) 12 0 0 [.ref (A 0), .int set, .int oth] (G) (zEq (some (.int (zb (fwl V nk set oth)))) G) (zNo) := by
  have hG_Tb := hT.tb
  have hnk : nk ≤ 8 := hT.2.1
  have hns : ns ≤ 6 := hT.2.2.1
  refine z_entry hs0 hst (by decide) (Nat.le_of_ble_eq_true rfl) (fun p e s m args below meth c => ?_)
  refine z_iload_n 1 d_Tb_isLess_0 rfl rfl ?_
  refine z_callS0 (m_In_bitCount hs0 hst set) ym_In_bitCount qM_Tb_105 qS_In_bitCount d_Tb_isLess_1 rfl (Nat.le_of_ble_eq_true rfl) ⟨Nat.zero_le _, Nat.zero_le _⟩ ⟨Nat.le_of_ble_eq_true rfl, Nat.le_of_ble_eq_true rfl⟩ ?_
  refine z_iload_n 2 d_Tb_isLess_4 rfl rfl ?_
  refine z_callS0 (m_In_bitCount hs0 hst oth) ym_In_bitCount qM_Tb_105 qS_In_bitCount d_Tb_isLess_5 rfl (Nat.le_of_ble_eq_true rfl) ⟨Nat.zero_le _, Nat.zero_le _⟩ ⟨Nat.le_of_ble_eq_true rfl, Nat.le_of_ble_eq_true rfl⟩ ?_
  refine z_isub d_Tb_isLess_8 ?_
  refine z_istore_n (L' := [(3, _), (0, _), (1, _), (2, _)]) d_Tb_isLess_9 rfl (by decide) rfl ?_
  refine z_iload_n 0 d_Tb_isLess_10 rfl rfl ?_
  refine z_if_lt 31 d_Tb_isLess_11 (by decide) (fun c_11 => ?_) (fun c_11 => ?_)
  · skip
    refine z_iconst (v := 1) d_Tb_isLess_31 (by decide) ?_
    refine z_goto 36 d_Tb_isLess_32 (by decide) ?_
    exact z_zret rfl (by first | rfl | exact zb_nar _) (⟨by first | exact congrArg (fun b => some (Value.int (zb b))) (fl_1 c_11).symm | exact congrArg (fun b => some (Value.int (zb b))) (fl_2 c_11 c_15).symm | exact congrArg (fun b => some (Value.int (zb b))) (fl_4 c_11 (Int32.not_lt.mpr c_28)).symm | exact congrArg (fun b => some (Value.int (zb b))) (fl_3 c_11 c_15 (Int32.not_le.mp c_28)).symm, rfl⟩) (by first | decide | omega) (by first | decide | omega) d_Tb_isLess_36
  · skip
    refine z_iload_n 0 d_Tb_isLess_14 rfl rfl ?_
    refine z_if_ne 35 d_Tb_isLess_15 (by decide) (fun c_15 => ?_) (fun c_15 => ?_)
    · skip
      refine z_iconst (v := 0) d_Tb_isLess_35 (by decide) ?_
      exact z_zret rfl (by first | rfl | exact zb_nar _) (⟨by first | exact congrArg (fun b => some (Value.int (zb b))) (fl_1 c_11).symm | exact congrArg (fun b => some (Value.int (zb b))) (fl_2 c_11 c_15).symm | exact congrArg (fun b => some (Value.int (zb b))) (fl_4 c_11 (Int32.not_lt.mpr c_28)).symm | exact congrArg (fun b => some (Value.int (zb b))) (fl_3 c_11 c_15 (Int32.not_le.mp c_28)).symm, rfl⟩) (by first | decide | omega) (by first | decide | omega) d_Tb_isLess_36
    · skip
      refine z_aload_n 1 d_Tb_isLess_18 rfl rfl ?_
      refine z_iload_n 2 d_Tb_isLess_19 rfl rfl ?_
      refine z_callV0 ((m_Tb_priceOfE hs0 hst hT set)) ym_Tb_priceOf qM_Tb_372 qI_Tb_priceOf qV_Tb_Tb_priceOf zc_Tb hG_Tb d_Tb_isLess_20 rfl (Nat.le_of_ble_eq_true rfl) ⟨Nat.zero_le _, Nat.zero_le _⟩ ⟨Nat.le_of_ble_eq_true rfl, Nat.le_of_ble_eq_true rfl⟩ ?_
      refine z_aload_n 1 d_Tb_isLess_23 rfl rfl ?_
      refine z_iload_n 3 d_Tb_isLess_24 rfl rfl ?_
      refine z_callV0 ((m_Tb_priceOfE hs0 hst hT oth)) ym_Tb_priceOf qM_Tb_372 qI_Tb_priceOf qV_Tb_Tb_priceOf zc_Tb hG_Tb d_Tb_isLess_25 rfl (Nat.le_of_ble_eq_true rfl) ⟨Nat.zero_le _, Nat.zero_le _⟩ ⟨Nat.le_of_ble_eq_true rfl, Nat.le_of_ble_eq_true rfl⟩ ?_
      refine z_icmp_ge 35 d_Tb_isLess_28 (by decide) (fun c_28 => ?_) (fun c_28 => ?_)
      · skip
        refine z_iconst (v := 0) d_Tb_isLess_35 (by decide) ?_
        exact z_zret rfl (by first | rfl | exact zb_nar _) (⟨by first | exact congrArg (fun b => some (Value.int (zb b))) (fl_1 c_11).symm | exact congrArg (fun b => some (Value.int (zb b))) (fl_2 c_11 c_15).symm | exact congrArg (fun b => some (Value.int (zb b))) (fl_4 c_11 (Int32.not_lt.mpr c_28)).symm | exact congrArg (fun b => some (Value.int (zb b))) (fl_3 c_11 c_15 (Int32.not_le.mp c_28)).symm, rfl⟩) (by first | decide | omega) (by first | decide | omega) d_Tb_isLess_36
      · skip
        refine z_iconst (v := 1) d_Tb_isLess_31 (by decide) ?_
        refine z_goto 36 d_Tb_isLess_32 (by decide) ?_
        exact z_zret rfl (by first | rfl | exact zb_nar _) (⟨by first | exact congrArg (fun b => some (Value.int (zb b))) (fl_1 c_11).symm | exact congrArg (fun b => some (Value.int (zb b))) (fl_2 c_11 c_15).symm | exact congrArg (fun b => some (Value.int (zb b))) (fl_4 c_11 (Int32.not_lt.mpr c_28)).symm | exact congrArg (fun b => some (Value.int (zb b))) (fl_3 c_11 c_15 (Int32.not_le.mp c_28)).symm, rfl⟩) (by first | decide | omega) (by first | decide | omega) d_Tb_isLess_36
set_option maxHeartbeats 4000000 in
set_option maxRecDepth 100000 in
theorem m_Tb_fewestOfE {g0 : State} {d : zD} {l : Launch} {a0 : Array Value} (hs0 : zS0 d a0 g0) (hst : l.stackTraces = false) {G : zG} {A : Nat → Nat} {D : Nat → UInt64} {V : Nat → Nat → Int32} {nk ns : Nat} (hT : zT d A D V nk ns G) {si : Nat} (hsi : si < ns) : zMet g0 d l y_Tb_fewestOf c_Tb_fewestOf 6 ((Option.some Jvm.ClassFile.FieldType.int)) 13 0 0 [.ref (A 0), .ref (A (200 + si))] (G) (zEq (some (.int (qFw V nk si))) G) (zNo) := by
  have hG_Tb := hT.tb
  have hnk : nk ≤ 8 := hT.2.1
  have hns : ns ≤ 6 := hT.2.2.1
  have hS := hT.se hsi
  have hh9 := (zset_N (zcur (V (400 + si)) (V (200 + si) 3)) 8 (by decide)).2
  refine z_entry hs0 hst (by decide) (Nat.le_of_ble_eq_true rfl) (fun p e s m args below meth c => ?_)
  refine z_aload_n 1 d_Tb_fewestOf_0 rfl rfl ?_
  refine z_callV0 (m_Se_currentSet hs0 hst hS) ym_Se_currentSet qM_Tb_144 qI_Se_currentSet qV_Se_Se_currentSet zc_Se hS.1 d_Tb_fewestOf_1 rfl (Nat.le_of_ble_eq_true rfl) ⟨Nat.zero_le _, Nat.zero_le _⟩ ⟨Nat.le_of_ble_eq_true rfl, Nat.le_of_ble_eq_true rfl⟩ ?_
  refine z_topv (zset_N _ 8 (by decide)).1 ?_
  refine z_istore_n (L' := [(2, _), (0, _), (1, _)]) d_Tb_fewestOf_4 rfl (by decide) rfl ?_
  refine z_iconst (v := (nI 0)) d_Tb_fewestOf_5 (by decide) ?_
  refine z_istore_n (L' := [(3, _), (2, _), (0, _), (1, _)]) d_Tb_fewestOf_6 rfl (by decide) rfl ?_
  refine z_iconst (v := (nI (0 + 1))) d_Tb_fewestOf_7 (by decide) ?_
  refine z_istore (L' := [(4, _), (3, _), (2, _), (0, _), (1, _)]) d_Tb_fewestOf_8 (by decide) rfl ?_
  have key_10 : ∀ (n : Nat) (i : Nat), (zsetN (zcur (V (400 + si)) (V (200 + si) 3)) 8) + 1 - i < n → (i ≤ (zsetN (zcur (V (400 + si)) (V (200 + si) 3)) 8)) → Z g0 d y_Tb_fewestOf c_Tb_fewestOf 6 ((Option.some Jvm.ClassFile.FieldType.int)) [] p l e (zR 13 0 0) s m args below meth c (vx_MQ below (zQc g0 d (zEq (some (.int (qFw V nk si))) G)) (zXc g0 d (zNo)) args s 0 0 (zA g0)) 0 0 (G) [(4, .int (nI (i + 1))), (3, .int (nI (zfB (fwc V nk si) (fun s b => fwl V nk (nI s) (nI b)) i))), (2, .int (nI (zsetN (zcur (V (400 + si)) (V (200 + si) 3)) 8))), (0, .ref (A 0)), (1, .ref (A (200 + si)))] [] 10 := by
    intro n
    induction n with
    | zero => intro i h0; exact absurd h0 (Nat.not_lt_zero _)
    | succ n ih_10 =>
      intro i hm_10 hi
      have hle9 := zfB_le (fwc V nk si) (fun s b => fwl V nk (nI s) (nI b)) i
      have hz9 := nI_z (i := (zfB (fwc V nk si) (fun s b => fwl V nk (nI s) (nI b)) i)) (by omega)
      refine z_iload 0 d_Tb_fewestOf_10 rfl ?_
      refine z_iload_n 2 d_Tb_fewestOf_12 rfl rfl ?_
      refine z_icmp_gt 85 d_Tb_fewestOf_13 (by decide) (fun c_13 => ?_) (fun c_13 => ?_)
      · skip
        obtain rfl : (zsetN (zcur (V (400 + si)) (V (200 + si) 3)) 8) = i := by
          have := (nI_ltI (a := (zsetN (zcur (V (400 + si)) (V (200 + si) 3)) 8)) (b := i + 1) (by omega) (by omega)).mp c_13
          omega
        refine z_iload_n 1 d_Tb_fewestOf_85 rfl rfl ?_
        exact z_iret rfl (⟨rfl, rfl⟩) (by first | decide | omega) (by first | decide | omega) d_Tb_fewestOf_86
      · skip
        have hi6 : i + 1 ≤ (zsetN (zcur (V (400 + si)) (V (200 + si) 3)) 8) := Nat.le_of_not_lt fun q => c_13 ((nI_ltI (by omega) (by omega)).mpr q)
        refine z_iload 0 d_Tb_fewestOf_16 rfl ?_
        refine z_iload_n 2 d_Tb_fewestOf_18 rfl rfl ?_
        refine z_iconst (v := (-1)) d_Tb_fewestOf_19 (by decide) ?_
        refine z_ixor d_Tb_fewestOf_20 ?_
        refine z_iand d_Tb_fewestOf_21 ?_
        refine z_if_ne 41 d_Tb_fewestOf_22 (by decide) (fun c_22 => ?_) (fun c_22 => ?_)
        · skip
          refine z_iconst (v := 0) d_Tb_fewestOf_41 (by decide) ?_
          refine z_istore (L' := [(5, _), (4, _), (3, _), (2, _), (0, _), (1, _)]) d_Tb_fewestOf_42 (by decide) rfl ?_
          refine z_iload 0 d_Tb_fewestOf_44 rfl ?_
          refine z_if_eq 79 d_Tb_fewestOf_46 (by decide) (fun c_46 => ?_) (fun c_46 => ?_)
          · skip
            refine z_iinc (v := nI (i + 1 + 1)) (L' := [(4, _), (5, _), (3, _), (2, _), (0, _), (1, _)]) 1 d_Tb_fewestOf_79 rfl (nI_1 (i + 1)) (by decide) rfl ?_
            refine z_goto 10 d_Tb_fewestOf_82 (by decide) ?_
            refine z_sub (L' := [(4, _), (3, _), (2, _), (0, _), (1, _)]) [0, 2, 3, 4, 5] rfl ?_
            first
              | (exfalso; revert c_46; decide)
              | (have e9 := zfB_f (c := (fwc V nk si)) (l := (fun s b => fwl V nk (nI s) (nI b))) (n := i) (Or.inl (fw_1 c_22))
                 have hb := ih_10 (i + 1) (by omega) (by omega)
                 rw [e9] at hb
                 exact hb)
              | (have e9 := zfB_f (c := (fwc V nk si)) (l := (fun s b => fwl V nk (nI s) (nI b))) (n := i) (Or.inl (fw_2 (Int32.not_le.mpr c_34)))
                 have hb := ih_10 (i + 1) (by omega) (by omega)
                 rw [e9] at hb
                 exact hb)
              | (have e9 := zfB_f (c := (fwc V nk si)) (l := (fun s b => fwl V nk (nI s) (nI b))) (n := i) (Or.inl (fw_3 (Int32.not_le.mpr c_59)))
                 have hb := ih_10 (i + 1) (by omega) (by omega)
                 rw [e9] at hb
                 exact hb)
              | (have e9 := zfB_f (c := (fwc V nk si)) (l := (fun s b => fwl V nk (nI s) (nI b))) (n := i) (Or.inr ⟨fun q => c_63 (congrArg nI q), (zb_0 _).mp c_73⟩)
                 have hb := ih_10 (i + 1) (by omega) (by omega)
                 rw [e9] at hb
                 exact hb)
              | (have e9 := zfB_t (c := (fwc V nk si)) (l := (fun s b => fwl V nk (nI s) (nI b))) (n := i) (fw_t c_22 (Int32.not_lt.mp c_34) (Int32.not_lt.mp c_59)) (Or.inl (hz9.mp c_63))
                 have hb := ih_10 (i + 1) (by omega) (by omega)
                 rw [e9] at hb
                 exact hb)
              | (have e9 := zfB_t (c := (fwc V nk si)) (l := (fun s b => fwl V nk (nI s) (nI b))) (n := i) (fw_t c_22 (Int32.not_lt.mp c_34) (Int32.not_lt.mp c_59)) (Or.inr ((zb_n0 _).mp c_73))
                 have hb := ih_10 (i + 1) (by omega) (by omega)
                 rw [e9] at hb
                 exact hb)
          · skip
            refine z_aload_n 4 d_Tb_fewestOf_49 rfl rfl ?_
            refine z_iload 1 d_Tb_fewestOf_50 rfl ?_
            refine z_callV0 ((m_Tb_zonesOfE hs0 hst hT (nI (i + 1)))) ym_Tb_zonesOf qM_Tb_354 qI_Tb_zonesOf qV_Tb_Tb_zonesOf zc_Tb hG_Tb d_Tb_fewestOf_52 rfl (Nat.le_of_ble_eq_true rfl) ⟨Nat.zero_le _, Nat.zero_le _⟩ ⟨Nat.le_of_ble_eq_true rfl, Nat.le_of_ble_eq_true rfl⟩ ?_
            refine z_aload_n 5 d_Tb_fewestOf_55 rfl rfl ?_
            refine z_get zc_Se 1 (by decide) qF_Tb_357 hS.1 rfl d_Tb_fewestOf_56 ?_
            refine z_icmp_lt 79 d_Tb_fewestOf_59 (by decide) (fun c_59 => ?_) (fun c_59 => ?_)
            · skip
              refine z_iinc (v := nI (i + 1 + 1)) (L' := [(4, _), (5, _), (3, _), (2, _), (0, _), (1, _)]) 1 d_Tb_fewestOf_79 rfl (nI_1 (i + 1)) (by decide) rfl ?_
              refine z_goto 10 d_Tb_fewestOf_82 (by decide) ?_
              refine z_sub (L' := [(4, _), (3, _), (2, _), (0, _), (1, _)]) [0, 2, 3, 4, 5] rfl ?_
              first
                | (exfalso; revert c_46; decide)
                | (have e9 := zfB_f (c := (fwc V nk si)) (l := (fun s b => fwl V nk (nI s) (nI b))) (n := i) (Or.inl (fw_1 c_22))
                   have hb := ih_10 (i + 1) (by omega) (by omega)
                   rw [e9] at hb
                   exact hb)
                | (have e9 := zfB_f (c := (fwc V nk si)) (l := (fun s b => fwl V nk (nI s) (nI b))) (n := i) (Or.inl (fw_2 (Int32.not_le.mpr c_34)))
                   have hb := ih_10 (i + 1) (by omega) (by omega)
                   rw [e9] at hb
                   exact hb)
                | (have e9 := zfB_f (c := (fwc V nk si)) (l := (fun s b => fwl V nk (nI s) (nI b))) (n := i) (Or.inl (fw_3 (Int32.not_le.mpr c_59)))
                   have hb := ih_10 (i + 1) (by omega) (by omega)
                   rw [e9] at hb
                   exact hb)
                | (have e9 := zfB_f (c := (fwc V nk si)) (l := (fun s b => fwl V nk (nI s) (nI b))) (n := i) (Or.inr ⟨fun q => c_63 (congrArg nI q), (zb_0 _).mp c_73⟩)
                   have hb := ih_10 (i + 1) (by omega) (by omega)
                   rw [e9] at hb
                   exact hb)
                | (have e9 := zfB_t (c := (fwc V nk si)) (l := (fun s b => fwl V nk (nI s) (nI b))) (n := i) (fw_t c_22 (Int32.not_lt.mp c_34) (Int32.not_lt.mp c_59)) (Or.inl (hz9.mp c_63))
                   have hb := ih_10 (i + 1) (by omega) (by omega)
                   rw [e9] at hb
                   exact hb)
                | (have e9 := zfB_t (c := (fwc V nk si)) (l := (fun s b => fwl V nk (nI s) (nI b))) (n := i) (fw_t c_22 (Int32.not_lt.mp c_34) (Int32.not_lt.mp c_59)) (Or.inr ((zb_n0 _).mp c_73))
                   have hb := ih_10 (i + 1) (by omega) (by omega)
                   rw [e9] at hb
                   exact hb)
            · skip
              refine z_iload_n 2 d_Tb_fewestOf_62 rfl rfl ?_
              refine z_if_eq 76 d_Tb_fewestOf_63 (by decide) (fun c_63 => ?_) (fun c_63 => ?_)
              · skip
                refine z_iload 1 d_Tb_fewestOf_76 rfl ?_
                refine z_istore_n (L' := [(3, _), (5, _), (4, _), (2, _), (0, _), (1, _)]) d_Tb_fewestOf_78 rfl (by decide) rfl ?_
                refine z_iinc (v := nI (i + 1 + 1)) (L' := [(4, _), (3, _), (5, _), (2, _), (0, _), (1, _)]) 2 d_Tb_fewestOf_79 rfl (nI_1 (i + 1)) (by decide) rfl ?_
                refine z_goto 10 d_Tb_fewestOf_82 (by decide) ?_
                refine z_sub (L' := [(4, _), (3, _), (2, _), (0, _), (1, _)]) [0, 1, 3, 4, 5] rfl ?_
                first
                  | (exfalso; revert c_46; decide)
                  | (have e9 := zfB_f (c := (fwc V nk si)) (l := (fun s b => fwl V nk (nI s) (nI b))) (n := i) (Or.inl (fw_1 c_22))
                     have hb := ih_10 (i + 1) (by omega) (by omega)
                     rw [e9] at hb
                     exact hb)
                  | (have e9 := zfB_f (c := (fwc V nk si)) (l := (fun s b => fwl V nk (nI s) (nI b))) (n := i) (Or.inl (fw_2 (Int32.not_le.mpr c_34)))
                     have hb := ih_10 (i + 1) (by omega) (by omega)
                     rw [e9] at hb
                     exact hb)
                  | (have e9 := zfB_f (c := (fwc V nk si)) (l := (fun s b => fwl V nk (nI s) (nI b))) (n := i) (Or.inl (fw_3 (Int32.not_le.mpr c_59)))
                     have hb := ih_10 (i + 1) (by omega) (by omega)
                     rw [e9] at hb
                     exact hb)
                  | (have e9 := zfB_f (c := (fwc V nk si)) (l := (fun s b => fwl V nk (nI s) (nI b))) (n := i) (Or.inr ⟨fun q => c_63 (congrArg nI q), (zb_0 _).mp c_73⟩)
                     have hb := ih_10 (i + 1) (by omega) (by omega)
                     rw [e9] at hb
                     exact hb)
                  | (have e9 := zfB_t (c := (fwc V nk si)) (l := (fun s b => fwl V nk (nI s) (nI b))) (n := i) (fw_t c_22 (Int32.not_lt.mp c_34) (Int32.not_lt.mp c_59)) (Or.inl (hz9.mp c_63))
                     have hb := ih_10 (i + 1) (by omega) (by omega)
                     rw [e9] at hb
                     exact hb)
                  | (have e9 := zfB_t (c := (fwc V nk si)) (l := (fun s b => fwl V nk (nI s) (nI b))) (n := i) (fw_t c_22 (Int32.not_lt.mp c_34) (Int32.not_lt.mp c_59)) (Or.inr ((zb_n0 _).mp c_73))
                     have hb := ih_10 (i + 1) (by omega) (by omega)
                     rw [e9] at hb
                     exact hb)
              · skip
                refine z_aload_n 4 d_Tb_fewestOf_66 rfl rfl ?_
                refine z_iload 1 d_Tb_fewestOf_67 rfl ?_
                refine z_iload_n 2 d_Tb_fewestOf_69 rfl rfl ?_
                refine z_callV0 ((m_Tb_isLessE hs0 hst hT _ _)) ym_Tb_isLess qM_Tb_369 qI_Tb_isLess qV_Tb_Tb_isLess zc_Tb hG_Tb d_Tb_fewestOf_70 rfl (Nat.le_of_ble_eq_true rfl) ⟨Nat.zero_le _, Nat.zero_le _⟩ ⟨Nat.le_of_ble_eq_true rfl, Nat.le_of_ble_eq_true rfl⟩ ?_
                refine z_if_eq 79 d_Tb_fewestOf_73 (by decide) (fun c_73 => ?_) (fun c_73 => ?_)
                · skip
                  refine z_iinc (v := nI (i + 1 + 1)) (L' := [(4, _), (5, _), (3, _), (2, _), (0, _), (1, _)]) 1 d_Tb_fewestOf_79 rfl (nI_1 (i + 1)) (by decide) rfl ?_
                  refine z_goto 10 d_Tb_fewestOf_82 (by decide) ?_
                  refine z_sub (L' := [(4, _), (3, _), (2, _), (0, _), (1, _)]) [0, 2, 3, 4, 5] rfl ?_
                  first
                    | (exfalso; revert c_46; decide)
                    | (have e9 := zfB_f (c := (fwc V nk si)) (l := (fun s b => fwl V nk (nI s) (nI b))) (n := i) (Or.inl (fw_1 c_22))
                       have hb := ih_10 (i + 1) (by omega) (by omega)
                       rw [e9] at hb
                       exact hb)
                    | (have e9 := zfB_f (c := (fwc V nk si)) (l := (fun s b => fwl V nk (nI s) (nI b))) (n := i) (Or.inl (fw_2 (Int32.not_le.mpr c_34)))
                       have hb := ih_10 (i + 1) (by omega) (by omega)
                       rw [e9] at hb
                       exact hb)
                    | (have e9 := zfB_f (c := (fwc V nk si)) (l := (fun s b => fwl V nk (nI s) (nI b))) (n := i) (Or.inl (fw_3 (Int32.not_le.mpr c_59)))
                       have hb := ih_10 (i + 1) (by omega) (by omega)
                       rw [e9] at hb
                       exact hb)
                    | (have e9 := zfB_f (c := (fwc V nk si)) (l := (fun s b => fwl V nk (nI s) (nI b))) (n := i) (Or.inr ⟨fun q => c_63 (congrArg nI q), (zb_0 _).mp c_73⟩)
                       have hb := ih_10 (i + 1) (by omega) (by omega)
                       rw [e9] at hb
                       exact hb)
                    | (have e9 := zfB_t (c := (fwc V nk si)) (l := (fun s b => fwl V nk (nI s) (nI b))) (n := i) (fw_t c_22 (Int32.not_lt.mp c_34) (Int32.not_lt.mp c_59)) (Or.inl (hz9.mp c_63))
                       have hb := ih_10 (i + 1) (by omega) (by omega)
                       rw [e9] at hb
                       exact hb)
                    | (have e9 := zfB_t (c := (fwc V nk si)) (l := (fun s b => fwl V nk (nI s) (nI b))) (n := i) (fw_t c_22 (Int32.not_lt.mp c_34) (Int32.not_lt.mp c_59)) (Or.inr ((zb_n0 _).mp c_73))
                       have hb := ih_10 (i + 1) (by omega) (by omega)
                       rw [e9] at hb
                       exact hb)
                · skip
                  refine z_iload 1 d_Tb_fewestOf_76 rfl ?_
                  refine z_istore_n (L' := [(3, _), (5, _), (4, _), (2, _), (0, _), (1, _)]) d_Tb_fewestOf_78 rfl (by decide) rfl ?_
                  refine z_iinc (v := nI (i + 1 + 1)) (L' := [(4, _), (3, _), (5, _), (2, _), (0, _), (1, _)]) 2 d_Tb_fewestOf_79 rfl (nI_1 (i + 1)) (by decide) rfl ?_
                  refine z_goto 10 d_Tb_fewestOf_82 (by decide) ?_
                  refine z_sub (L' := [(4, _), (3, _), (2, _), (0, _), (1, _)]) [0, 1, 3, 4, 5] rfl ?_
                  first
                    | (exfalso; revert c_46; decide)
                    | (have e9 := zfB_f (c := (fwc V nk si)) (l := (fun s b => fwl V nk (nI s) (nI b))) (n := i) (Or.inl (fw_1 c_22))
                       have hb := ih_10 (i + 1) (by omega) (by omega)
                       rw [e9] at hb
                       exact hb)
                    | (have e9 := zfB_f (c := (fwc V nk si)) (l := (fun s b => fwl V nk (nI s) (nI b))) (n := i) (Or.inl (fw_2 (Int32.not_le.mpr c_34)))
                       have hb := ih_10 (i + 1) (by omega) (by omega)
                       rw [e9] at hb
                       exact hb)
                    | (have e9 := zfB_f (c := (fwc V nk si)) (l := (fun s b => fwl V nk (nI s) (nI b))) (n := i) (Or.inl (fw_3 (Int32.not_le.mpr c_59)))
                       have hb := ih_10 (i + 1) (by omega) (by omega)
                       rw [e9] at hb
                       exact hb)
                    | (have e9 := zfB_f (c := (fwc V nk si)) (l := (fun s b => fwl V nk (nI s) (nI b))) (n := i) (Or.inr ⟨fun q => c_63 (congrArg nI q), (zb_0 _).mp c_73⟩)
                       have hb := ih_10 (i + 1) (by omega) (by omega)
                       rw [e9] at hb
                       exact hb)
                    | (have e9 := zfB_t (c := (fwc V nk si)) (l := (fun s b => fwl V nk (nI s) (nI b))) (n := i) (fw_t c_22 (Int32.not_lt.mp c_34) (Int32.not_lt.mp c_59)) (Or.inl (hz9.mp c_63))
                       have hb := ih_10 (i + 1) (by omega) (by omega)
                       rw [e9] at hb
                       exact hb)
                    | (have e9 := zfB_t (c := (fwc V nk si)) (l := (fun s b => fwl V nk (nI s) (nI b))) (n := i) (fw_t c_22 (Int32.not_lt.mp c_34) (Int32.not_lt.mp c_59)) (Or.inr ((zb_n0 _).mp c_73))
                       have hb := ih_10 (i + 1) (by omega) (by omega)
                       rw [e9] at hb
                       exact hb)
        · skip
          refine z_iload 0 d_Tb_fewestOf_25 rfl ?_
          refine z_callS0 (m_In_bitCount hs0 hst _) ym_In_bitCount qM_Tb_105 qS_In_bitCount d_Tb_fewestOf_27 rfl (Nat.le_of_ble_eq_true rfl) ⟨Nat.zero_le _, Nat.zero_le _⟩ ⟨Nat.le_of_ble_eq_true rfl, Nat.le_of_ble_eq_true rfl⟩ ?_
          refine z_aload_n 4 d_Tb_fewestOf_30 rfl rfl ?_
          refine z_get zc_Se 0 (by decide) qF_Tb_147 hS.1 rfl d_Tb_fewestOf_31 ?_
          refine z_icmp_lt 41 d_Tb_fewestOf_34 (by decide) (fun c_34 => ?_) (fun c_34 => ?_)
          · skip
            refine z_iconst (v := 0) d_Tb_fewestOf_41 (by decide) ?_
            refine z_istore (L' := [(5, _), (4, _), (3, _), (2, _), (0, _), (1, _)]) d_Tb_fewestOf_42 (by decide) rfl ?_
            refine z_iload 0 d_Tb_fewestOf_44 rfl ?_
            refine z_if_eq 79 d_Tb_fewestOf_46 (by decide) (fun c_46 => ?_) (fun c_46 => ?_)
            · skip
              refine z_iinc (v := nI (i + 1 + 1)) (L' := [(4, _), (5, _), (3, _), (2, _), (0, _), (1, _)]) 1 d_Tb_fewestOf_79 rfl (nI_1 (i + 1)) (by decide) rfl ?_
              refine z_goto 10 d_Tb_fewestOf_82 (by decide) ?_
              refine z_sub (L' := [(4, _), (3, _), (2, _), (0, _), (1, _)]) [0, 2, 3, 4, 5] rfl ?_
              first
                | (exfalso; revert c_46; decide)
                | (have e9 := zfB_f (c := (fwc V nk si)) (l := (fun s b => fwl V nk (nI s) (nI b))) (n := i) (Or.inl (fw_1 c_22))
                   have hb := ih_10 (i + 1) (by omega) (by omega)
                   rw [e9] at hb
                   exact hb)
                | (have e9 := zfB_f (c := (fwc V nk si)) (l := (fun s b => fwl V nk (nI s) (nI b))) (n := i) (Or.inl (fw_2 (Int32.not_le.mpr c_34)))
                   have hb := ih_10 (i + 1) (by omega) (by omega)
                   rw [e9] at hb
                   exact hb)
                | (have e9 := zfB_f (c := (fwc V nk si)) (l := (fun s b => fwl V nk (nI s) (nI b))) (n := i) (Or.inl (fw_3 (Int32.not_le.mpr c_59)))
                   have hb := ih_10 (i + 1) (by omega) (by omega)
                   rw [e9] at hb
                   exact hb)
                | (have e9 := zfB_f (c := (fwc V nk si)) (l := (fun s b => fwl V nk (nI s) (nI b))) (n := i) (Or.inr ⟨fun q => c_63 (congrArg nI q), (zb_0 _).mp c_73⟩)
                   have hb := ih_10 (i + 1) (by omega) (by omega)
                   rw [e9] at hb
                   exact hb)
                | (have e9 := zfB_t (c := (fwc V nk si)) (l := (fun s b => fwl V nk (nI s) (nI b))) (n := i) (fw_t c_22 (Int32.not_lt.mp c_34) (Int32.not_lt.mp c_59)) (Or.inl (hz9.mp c_63))
                   have hb := ih_10 (i + 1) (by omega) (by omega)
                   rw [e9] at hb
                   exact hb)
                | (have e9 := zfB_t (c := (fwc V nk si)) (l := (fun s b => fwl V nk (nI s) (nI b))) (n := i) (fw_t c_22 (Int32.not_lt.mp c_34) (Int32.not_lt.mp c_59)) (Or.inr ((zb_n0 _).mp c_73))
                   have hb := ih_10 (i + 1) (by omega) (by omega)
                   rw [e9] at hb
                   exact hb)
            · skip
              refine z_aload_n 4 d_Tb_fewestOf_49 rfl rfl ?_
              refine z_iload 1 d_Tb_fewestOf_50 rfl ?_
              refine z_callV0 ((m_Tb_zonesOfE hs0 hst hT (nI (i + 1)))) ym_Tb_zonesOf qM_Tb_354 qI_Tb_zonesOf qV_Tb_Tb_zonesOf zc_Tb hG_Tb d_Tb_fewestOf_52 rfl (Nat.le_of_ble_eq_true rfl) ⟨Nat.zero_le _, Nat.zero_le _⟩ ⟨Nat.le_of_ble_eq_true rfl, Nat.le_of_ble_eq_true rfl⟩ ?_
              refine z_aload_n 5 d_Tb_fewestOf_55 rfl rfl ?_
              refine z_get zc_Se 1 (by decide) qF_Tb_357 hS.1 rfl d_Tb_fewestOf_56 ?_
              refine z_icmp_lt 79 d_Tb_fewestOf_59 (by decide) (fun c_59 => ?_) (fun c_59 => ?_)
              · skip
                refine z_iinc (v := nI (i + 1 + 1)) (L' := [(4, _), (5, _), (3, _), (2, _), (0, _), (1, _)]) 1 d_Tb_fewestOf_79 rfl (nI_1 (i + 1)) (by decide) rfl ?_
                refine z_goto 10 d_Tb_fewestOf_82 (by decide) ?_
                refine z_sub (L' := [(4, _), (3, _), (2, _), (0, _), (1, _)]) [0, 2, 3, 4, 5] rfl ?_
                first
                  | (exfalso; revert c_46; decide)
                  | (have e9 := zfB_f (c := (fwc V nk si)) (l := (fun s b => fwl V nk (nI s) (nI b))) (n := i) (Or.inl (fw_1 c_22))
                     have hb := ih_10 (i + 1) (by omega) (by omega)
                     rw [e9] at hb
                     exact hb)
                  | (have e9 := zfB_f (c := (fwc V nk si)) (l := (fun s b => fwl V nk (nI s) (nI b))) (n := i) (Or.inl (fw_2 (Int32.not_le.mpr c_34)))
                     have hb := ih_10 (i + 1) (by omega) (by omega)
                     rw [e9] at hb
                     exact hb)
                  | (have e9 := zfB_f (c := (fwc V nk si)) (l := (fun s b => fwl V nk (nI s) (nI b))) (n := i) (Or.inl (fw_3 (Int32.not_le.mpr c_59)))
                     have hb := ih_10 (i + 1) (by omega) (by omega)
                     rw [e9] at hb
                     exact hb)
                  | (have e9 := zfB_f (c := (fwc V nk si)) (l := (fun s b => fwl V nk (nI s) (nI b))) (n := i) (Or.inr ⟨fun q => c_63 (congrArg nI q), (zb_0 _).mp c_73⟩)
                     have hb := ih_10 (i + 1) (by omega) (by omega)
                     rw [e9] at hb
                     exact hb)
                  | (have e9 := zfB_t (c := (fwc V nk si)) (l := (fun s b => fwl V nk (nI s) (nI b))) (n := i) (fw_t c_22 (Int32.not_lt.mp c_34) (Int32.not_lt.mp c_59)) (Or.inl (hz9.mp c_63))
                     have hb := ih_10 (i + 1) (by omega) (by omega)
                     rw [e9] at hb
                     exact hb)
                  | (have e9 := zfB_t (c := (fwc V nk si)) (l := (fun s b => fwl V nk (nI s) (nI b))) (n := i) (fw_t c_22 (Int32.not_lt.mp c_34) (Int32.not_lt.mp c_59)) (Or.inr ((zb_n0 _).mp c_73))
                     have hb := ih_10 (i + 1) (by omega) (by omega)
                     rw [e9] at hb
                     exact hb)
              · skip
                refine z_iload_n 2 d_Tb_fewestOf_62 rfl rfl ?_
                refine z_if_eq 76 d_Tb_fewestOf_63 (by decide) (fun c_63 => ?_) (fun c_63 => ?_)
                · skip
                  refine z_iload 1 d_Tb_fewestOf_76 rfl ?_
                  refine z_istore_n (L' := [(3, _), (5, _), (4, _), (2, _), (0, _), (1, _)]) d_Tb_fewestOf_78 rfl (by decide) rfl ?_
                  refine z_iinc (v := nI (i + 1 + 1)) (L' := [(4, _), (3, _), (5, _), (2, _), (0, _), (1, _)]) 2 d_Tb_fewestOf_79 rfl (nI_1 (i + 1)) (by decide) rfl ?_
                  refine z_goto 10 d_Tb_fewestOf_82 (by decide) ?_
                  refine z_sub (L' := [(4, _), (3, _), (2, _), (0, _), (1, _)]) [0, 1, 3, 4, 5] rfl ?_
                  first
                    | (exfalso; revert c_46; decide)
                    | (have e9 := zfB_f (c := (fwc V nk si)) (l := (fun s b => fwl V nk (nI s) (nI b))) (n := i) (Or.inl (fw_1 c_22))
                       have hb := ih_10 (i + 1) (by omega) (by omega)
                       rw [e9] at hb
                       exact hb)
                    | (have e9 := zfB_f (c := (fwc V nk si)) (l := (fun s b => fwl V nk (nI s) (nI b))) (n := i) (Or.inl (fw_2 (Int32.not_le.mpr c_34)))
                       have hb := ih_10 (i + 1) (by omega) (by omega)
                       rw [e9] at hb
                       exact hb)
                    | (have e9 := zfB_f (c := (fwc V nk si)) (l := (fun s b => fwl V nk (nI s) (nI b))) (n := i) (Or.inl (fw_3 (Int32.not_le.mpr c_59)))
                       have hb := ih_10 (i + 1) (by omega) (by omega)
                       rw [e9] at hb
                       exact hb)
                    | (have e9 := zfB_f (c := (fwc V nk si)) (l := (fun s b => fwl V nk (nI s) (nI b))) (n := i) (Or.inr ⟨fun q => c_63 (congrArg nI q), (zb_0 _).mp c_73⟩)
                       have hb := ih_10 (i + 1) (by omega) (by omega)
                       rw [e9] at hb
                       exact hb)
                    | (have e9 := zfB_t (c := (fwc V nk si)) (l := (fun s b => fwl V nk (nI s) (nI b))) (n := i) (fw_t c_22 (Int32.not_lt.mp c_34) (Int32.not_lt.mp c_59)) (Or.inl (hz9.mp c_63))
                       have hb := ih_10 (i + 1) (by omega) (by omega)
                       rw [e9] at hb
                       exact hb)
                    | (have e9 := zfB_t (c := (fwc V nk si)) (l := (fun s b => fwl V nk (nI s) (nI b))) (n := i) (fw_t c_22 (Int32.not_lt.mp c_34) (Int32.not_lt.mp c_59)) (Or.inr ((zb_n0 _).mp c_73))
                       have hb := ih_10 (i + 1) (by omega) (by omega)
                       rw [e9] at hb
                       exact hb)
                · skip
                  refine z_aload_n 4 d_Tb_fewestOf_66 rfl rfl ?_
                  refine z_iload 1 d_Tb_fewestOf_67 rfl ?_
                  refine z_iload_n 2 d_Tb_fewestOf_69 rfl rfl ?_
                  refine z_callV0 ((m_Tb_isLessE hs0 hst hT _ _)) ym_Tb_isLess qM_Tb_369 qI_Tb_isLess qV_Tb_Tb_isLess zc_Tb hG_Tb d_Tb_fewestOf_70 rfl (Nat.le_of_ble_eq_true rfl) ⟨Nat.zero_le _, Nat.zero_le _⟩ ⟨Nat.le_of_ble_eq_true rfl, Nat.le_of_ble_eq_true rfl⟩ ?_
                  refine z_if_eq 79 d_Tb_fewestOf_73 (by decide) (fun c_73 => ?_) (fun c_73 => ?_)
                  · skip
                    refine z_iinc (v := nI (i + 1 + 1)) (L' := [(4, _), (5, _), (3, _), (2, _), (0, _), (1, _)]) 1 d_Tb_fewestOf_79 rfl (nI_1 (i + 1)) (by decide) rfl ?_
                    refine z_goto 10 d_Tb_fewestOf_82 (by decide) ?_
                    refine z_sub (L' := [(4, _), (3, _), (2, _), (0, _), (1, _)]) [0, 2, 3, 4, 5] rfl ?_
                    first
                      | (exfalso; revert c_46; decide)
                      | (have e9 := zfB_f (c := (fwc V nk si)) (l := (fun s b => fwl V nk (nI s) (nI b))) (n := i) (Or.inl (fw_1 c_22))
                         have hb := ih_10 (i + 1) (by omega) (by omega)
                         rw [e9] at hb
                         exact hb)
                      | (have e9 := zfB_f (c := (fwc V nk si)) (l := (fun s b => fwl V nk (nI s) (nI b))) (n := i) (Or.inl (fw_2 (Int32.not_le.mpr c_34)))
                         have hb := ih_10 (i + 1) (by omega) (by omega)
                         rw [e9] at hb
                         exact hb)
                      | (have e9 := zfB_f (c := (fwc V nk si)) (l := (fun s b => fwl V nk (nI s) (nI b))) (n := i) (Or.inl (fw_3 (Int32.not_le.mpr c_59)))
                         have hb := ih_10 (i + 1) (by omega) (by omega)
                         rw [e9] at hb
                         exact hb)
                      | (have e9 := zfB_f (c := (fwc V nk si)) (l := (fun s b => fwl V nk (nI s) (nI b))) (n := i) (Or.inr ⟨fun q => c_63 (congrArg nI q), (zb_0 _).mp c_73⟩)
                         have hb := ih_10 (i + 1) (by omega) (by omega)
                         rw [e9] at hb
                         exact hb)
                      | (have e9 := zfB_t (c := (fwc V nk si)) (l := (fun s b => fwl V nk (nI s) (nI b))) (n := i) (fw_t c_22 (Int32.not_lt.mp c_34) (Int32.not_lt.mp c_59)) (Or.inl (hz9.mp c_63))
                         have hb := ih_10 (i + 1) (by omega) (by omega)
                         rw [e9] at hb
                         exact hb)
                      | (have e9 := zfB_t (c := (fwc V nk si)) (l := (fun s b => fwl V nk (nI s) (nI b))) (n := i) (fw_t c_22 (Int32.not_lt.mp c_34) (Int32.not_lt.mp c_59)) (Or.inr ((zb_n0 _).mp c_73))
                         have hb := ih_10 (i + 1) (by omega) (by omega)
                         rw [e9] at hb
                         exact hb)
                  · skip
                    refine z_iload 1 d_Tb_fewestOf_76 rfl ?_
                    refine z_istore_n (L' := [(3, _), (5, _), (4, _), (2, _), (0, _), (1, _)]) d_Tb_fewestOf_78 rfl (by decide) rfl ?_
                    refine z_iinc (v := nI (i + 1 + 1)) (L' := [(4, _), (3, _), (5, _), (2, _), (0, _), (1, _)]) 2 d_Tb_fewestOf_79 rfl (nI_1 (i + 1)) (by decide) rfl ?_
                    refine z_goto 10 d_Tb_fewestOf_82 (by decide) ?_
                    refine z_sub (L' := [(4, _), (3, _), (2, _), (0, _), (1, _)]) [0, 1, 3, 4, 5] rfl ?_
                    first
                      | (exfalso; revert c_46; decide)
                      | (have e9 := zfB_f (c := (fwc V nk si)) (l := (fun s b => fwl V nk (nI s) (nI b))) (n := i) (Or.inl (fw_1 c_22))
                         have hb := ih_10 (i + 1) (by omega) (by omega)
                         rw [e9] at hb
                         exact hb)
                      | (have e9 := zfB_f (c := (fwc V nk si)) (l := (fun s b => fwl V nk (nI s) (nI b))) (n := i) (Or.inl (fw_2 (Int32.not_le.mpr c_34)))
                         have hb := ih_10 (i + 1) (by omega) (by omega)
                         rw [e9] at hb
                         exact hb)
                      | (have e9 := zfB_f (c := (fwc V nk si)) (l := (fun s b => fwl V nk (nI s) (nI b))) (n := i) (Or.inl (fw_3 (Int32.not_le.mpr c_59)))
                         have hb := ih_10 (i + 1) (by omega) (by omega)
                         rw [e9] at hb
                         exact hb)
                      | (have e9 := zfB_f (c := (fwc V nk si)) (l := (fun s b => fwl V nk (nI s) (nI b))) (n := i) (Or.inr ⟨fun q => c_63 (congrArg nI q), (zb_0 _).mp c_73⟩)
                         have hb := ih_10 (i + 1) (by omega) (by omega)
                         rw [e9] at hb
                         exact hb)
                      | (have e9 := zfB_t (c := (fwc V nk si)) (l := (fun s b => fwl V nk (nI s) (nI b))) (n := i) (fw_t c_22 (Int32.not_lt.mp c_34) (Int32.not_lt.mp c_59)) (Or.inl (hz9.mp c_63))
                         have hb := ih_10 (i + 1) (by omega) (by omega)
                         rw [e9] at hb
                         exact hb)
                      | (have e9 := zfB_t (c := (fwc V nk si)) (l := (fun s b => fwl V nk (nI s) (nI b))) (n := i) (fw_t c_22 (Int32.not_lt.mp c_34) (Int32.not_lt.mp c_59)) (Or.inr ((zb_n0 _).mp c_73))
                         have hb := ih_10 (i + 1) (by omega) (by omega)
                         rw [e9] at hb
                         exact hb)
          · skip
            refine z_iconst (v := 1) d_Tb_fewestOf_37 (by decide) ?_
            refine z_goto 42 d_Tb_fewestOf_38 (by decide) ?_
            refine z_istore (L' := [(5, _), (4, _), (3, _), (2, _), (0, _), (1, _)]) d_Tb_fewestOf_42 (by decide) rfl ?_
            refine z_iload 0 d_Tb_fewestOf_44 rfl ?_
            refine z_if_eq 79 d_Tb_fewestOf_46 (by decide) (fun c_46 => ?_) (fun c_46 => ?_)
            · skip
              refine z_iinc (v := nI (i + 1 + 1)) (L' := [(4, _), (5, _), (3, _), (2, _), (0, _), (1, _)]) 1 d_Tb_fewestOf_79 rfl (nI_1 (i + 1)) (by decide) rfl ?_
              refine z_goto 10 d_Tb_fewestOf_82 (by decide) ?_
              refine z_sub (L' := [(4, _), (3, _), (2, _), (0, _), (1, _)]) [0, 2, 3, 4, 5] rfl ?_
              first
                | (exfalso; revert c_46; decide)
                | (have e9 := zfB_f (c := (fwc V nk si)) (l := (fun s b => fwl V nk (nI s) (nI b))) (n := i) (Or.inl (fw_1 c_22))
                   have hb := ih_10 (i + 1) (by omega) (by omega)
                   rw [e9] at hb
                   exact hb)
                | (have e9 := zfB_f (c := (fwc V nk si)) (l := (fun s b => fwl V nk (nI s) (nI b))) (n := i) (Or.inl (fw_2 (Int32.not_le.mpr c_34)))
                   have hb := ih_10 (i + 1) (by omega) (by omega)
                   rw [e9] at hb
                   exact hb)
                | (have e9 := zfB_f (c := (fwc V nk si)) (l := (fun s b => fwl V nk (nI s) (nI b))) (n := i) (Or.inl (fw_3 (Int32.not_le.mpr c_59)))
                   have hb := ih_10 (i + 1) (by omega) (by omega)
                   rw [e9] at hb
                   exact hb)
                | (have e9 := zfB_f (c := (fwc V nk si)) (l := (fun s b => fwl V nk (nI s) (nI b))) (n := i) (Or.inr ⟨fun q => c_63 (congrArg nI q), (zb_0 _).mp c_73⟩)
                   have hb := ih_10 (i + 1) (by omega) (by omega)
                   rw [e9] at hb
                   exact hb)
                | (have e9 := zfB_t (c := (fwc V nk si)) (l := (fun s b => fwl V nk (nI s) (nI b))) (n := i) (fw_t c_22 (Int32.not_lt.mp c_34) (Int32.not_lt.mp c_59)) (Or.inl (hz9.mp c_63))
                   have hb := ih_10 (i + 1) (by omega) (by omega)
                   rw [e9] at hb
                   exact hb)
                | (have e9 := zfB_t (c := (fwc V nk si)) (l := (fun s b => fwl V nk (nI s) (nI b))) (n := i) (fw_t c_22 (Int32.not_lt.mp c_34) (Int32.not_lt.mp c_59)) (Or.inr ((zb_n0 _).mp c_73))
                   have hb := ih_10 (i + 1) (by omega) (by omega)
                   rw [e9] at hb
                   exact hb)
            · skip
              refine z_aload_n 4 d_Tb_fewestOf_49 rfl rfl ?_
              refine z_iload 1 d_Tb_fewestOf_50 rfl ?_
              refine z_callV0 ((m_Tb_zonesOfE hs0 hst hT (nI (i + 1)))) ym_Tb_zonesOf qM_Tb_354 qI_Tb_zonesOf qV_Tb_Tb_zonesOf zc_Tb hG_Tb d_Tb_fewestOf_52 rfl (Nat.le_of_ble_eq_true rfl) ⟨Nat.zero_le _, Nat.zero_le _⟩ ⟨Nat.le_of_ble_eq_true rfl, Nat.le_of_ble_eq_true rfl⟩ ?_
              refine z_aload_n 5 d_Tb_fewestOf_55 rfl rfl ?_
              refine z_get zc_Se 1 (by decide) qF_Tb_357 hS.1 rfl d_Tb_fewestOf_56 ?_
              refine z_icmp_lt 79 d_Tb_fewestOf_59 (by decide) (fun c_59 => ?_) (fun c_59 => ?_)
              · skip
                refine z_iinc (v := nI (i + 1 + 1)) (L' := [(4, _), (5, _), (3, _), (2, _), (0, _), (1, _)]) 1 d_Tb_fewestOf_79 rfl (nI_1 (i + 1)) (by decide) rfl ?_
                refine z_goto 10 d_Tb_fewestOf_82 (by decide) ?_
                refine z_sub (L' := [(4, _), (3, _), (2, _), (0, _), (1, _)]) [0, 2, 3, 4, 5] rfl ?_
                first
                  | (exfalso; revert c_46; decide)
                  | (have e9 := zfB_f (c := (fwc V nk si)) (l := (fun s b => fwl V nk (nI s) (nI b))) (n := i) (Or.inl (fw_1 c_22))
                     have hb := ih_10 (i + 1) (by omega) (by omega)
                     rw [e9] at hb
                     exact hb)
                  | (have e9 := zfB_f (c := (fwc V nk si)) (l := (fun s b => fwl V nk (nI s) (nI b))) (n := i) (Or.inl (fw_2 (Int32.not_le.mpr c_34)))
                     have hb := ih_10 (i + 1) (by omega) (by omega)
                     rw [e9] at hb
                     exact hb)
                  | (have e9 := zfB_f (c := (fwc V nk si)) (l := (fun s b => fwl V nk (nI s) (nI b))) (n := i) (Or.inl (fw_3 (Int32.not_le.mpr c_59)))
                     have hb := ih_10 (i + 1) (by omega) (by omega)
                     rw [e9] at hb
                     exact hb)
                  | (have e9 := zfB_f (c := (fwc V nk si)) (l := (fun s b => fwl V nk (nI s) (nI b))) (n := i) (Or.inr ⟨fun q => c_63 (congrArg nI q), (zb_0 _).mp c_73⟩)
                     have hb := ih_10 (i + 1) (by omega) (by omega)
                     rw [e9] at hb
                     exact hb)
                  | (have e9 := zfB_t (c := (fwc V nk si)) (l := (fun s b => fwl V nk (nI s) (nI b))) (n := i) (fw_t c_22 (Int32.not_lt.mp c_34) (Int32.not_lt.mp c_59)) (Or.inl (hz9.mp c_63))
                     have hb := ih_10 (i + 1) (by omega) (by omega)
                     rw [e9] at hb
                     exact hb)
                  | (have e9 := zfB_t (c := (fwc V nk si)) (l := (fun s b => fwl V nk (nI s) (nI b))) (n := i) (fw_t c_22 (Int32.not_lt.mp c_34) (Int32.not_lt.mp c_59)) (Or.inr ((zb_n0 _).mp c_73))
                     have hb := ih_10 (i + 1) (by omega) (by omega)
                     rw [e9] at hb
                     exact hb)
              · skip
                refine z_iload_n 2 d_Tb_fewestOf_62 rfl rfl ?_
                refine z_if_eq 76 d_Tb_fewestOf_63 (by decide) (fun c_63 => ?_) (fun c_63 => ?_)
                · skip
                  refine z_iload 1 d_Tb_fewestOf_76 rfl ?_
                  refine z_istore_n (L' := [(3, _), (5, _), (4, _), (2, _), (0, _), (1, _)]) d_Tb_fewestOf_78 rfl (by decide) rfl ?_
                  refine z_iinc (v := nI (i + 1 + 1)) (L' := [(4, _), (3, _), (5, _), (2, _), (0, _), (1, _)]) 2 d_Tb_fewestOf_79 rfl (nI_1 (i + 1)) (by decide) rfl ?_
                  refine z_goto 10 d_Tb_fewestOf_82 (by decide) ?_
                  refine z_sub (L' := [(4, _), (3, _), (2, _), (0, _), (1, _)]) [0, 1, 3, 4, 5] rfl ?_
                  first
                    | (exfalso; revert c_46; decide)
                    | (have e9 := zfB_f (c := (fwc V nk si)) (l := (fun s b => fwl V nk (nI s) (nI b))) (n := i) (Or.inl (fw_1 c_22))
                       have hb := ih_10 (i + 1) (by omega) (by omega)
                       rw [e9] at hb
                       exact hb)
                    | (have e9 := zfB_f (c := (fwc V nk si)) (l := (fun s b => fwl V nk (nI s) (nI b))) (n := i) (Or.inl (fw_2 (Int32.not_le.mpr c_34)))
                       have hb := ih_10 (i + 1) (by omega) (by omega)
                       rw [e9] at hb
                       exact hb)
                    | (have e9 := zfB_f (c := (fwc V nk si)) (l := (fun s b => fwl V nk (nI s) (nI b))) (n := i) (Or.inl (fw_3 (Int32.not_le.mpr c_59)))
                       have hb := ih_10 (i + 1) (by omega) (by omega)
                       rw [e9] at hb
                       exact hb)
                    | (have e9 := zfB_f (c := (fwc V nk si)) (l := (fun s b => fwl V nk (nI s) (nI b))) (n := i) (Or.inr ⟨fun q => c_63 (congrArg nI q), (zb_0 _).mp c_73⟩)
                       have hb := ih_10 (i + 1) (by omega) (by omega)
                       rw [e9] at hb
                       exact hb)
                    | (have e9 := zfB_t (c := (fwc V nk si)) (l := (fun s b => fwl V nk (nI s) (nI b))) (n := i) (fw_t c_22 (Int32.not_lt.mp c_34) (Int32.not_lt.mp c_59)) (Or.inl (hz9.mp c_63))
                       have hb := ih_10 (i + 1) (by omega) (by omega)
                       rw [e9] at hb
                       exact hb)
                    | (have e9 := zfB_t (c := (fwc V nk si)) (l := (fun s b => fwl V nk (nI s) (nI b))) (n := i) (fw_t c_22 (Int32.not_lt.mp c_34) (Int32.not_lt.mp c_59)) (Or.inr ((zb_n0 _).mp c_73))
                       have hb := ih_10 (i + 1) (by omega) (by omega)
                       rw [e9] at hb
                       exact hb)
                · skip
                  refine z_aload_n 4 d_Tb_fewestOf_66 rfl rfl ?_
                  refine z_iload 1 d_Tb_fewestOf_67 rfl ?_
                  refine z_iload_n 2 d_Tb_fewestOf_69 rfl rfl ?_
                  refine z_callV0 ((m_Tb_isLessE hs0 hst hT _ _)) ym_Tb_isLess qM_Tb_369 qI_Tb_isLess qV_Tb_Tb_isLess zc_Tb hG_Tb d_Tb_fewestOf_70 rfl (Nat.le_of_ble_eq_true rfl) ⟨Nat.zero_le _, Nat.zero_le _⟩ ⟨Nat.le_of_ble_eq_true rfl, Nat.le_of_ble_eq_true rfl⟩ ?_
                  refine z_if_eq 79 d_Tb_fewestOf_73 (by decide) (fun c_73 => ?_) (fun c_73 => ?_)
                  · skip
                    refine z_iinc (v := nI (i + 1 + 1)) (L' := [(4, _), (5, _), (3, _), (2, _), (0, _), (1, _)]) 1 d_Tb_fewestOf_79 rfl (nI_1 (i + 1)) (by decide) rfl ?_
                    refine z_goto 10 d_Tb_fewestOf_82 (by decide) ?_
                    refine z_sub (L' := [(4, _), (3, _), (2, _), (0, _), (1, _)]) [0, 2, 3, 4, 5] rfl ?_
                    first
                      | (exfalso; revert c_46; decide)
                      | (have e9 := zfB_f (c := (fwc V nk si)) (l := (fun s b => fwl V nk (nI s) (nI b))) (n := i) (Or.inl (fw_1 c_22))
                         have hb := ih_10 (i + 1) (by omega) (by omega)
                         rw [e9] at hb
                         exact hb)
                      | (have e9 := zfB_f (c := (fwc V nk si)) (l := (fun s b => fwl V nk (nI s) (nI b))) (n := i) (Or.inl (fw_2 (Int32.not_le.mpr c_34)))
                         have hb := ih_10 (i + 1) (by omega) (by omega)
                         rw [e9] at hb
                         exact hb)
                      | (have e9 := zfB_f (c := (fwc V nk si)) (l := (fun s b => fwl V nk (nI s) (nI b))) (n := i) (Or.inl (fw_3 (Int32.not_le.mpr c_59)))
                         have hb := ih_10 (i + 1) (by omega) (by omega)
                         rw [e9] at hb
                         exact hb)
                      | (have e9 := zfB_f (c := (fwc V nk si)) (l := (fun s b => fwl V nk (nI s) (nI b))) (n := i) (Or.inr ⟨fun q => c_63 (congrArg nI q), (zb_0 _).mp c_73⟩)
                         have hb := ih_10 (i + 1) (by omega) (by omega)
                         rw [e9] at hb
                         exact hb)
                      | (have e9 := zfB_t (c := (fwc V nk si)) (l := (fun s b => fwl V nk (nI s) (nI b))) (n := i) (fw_t c_22 (Int32.not_lt.mp c_34) (Int32.not_lt.mp c_59)) (Or.inl (hz9.mp c_63))
                         have hb := ih_10 (i + 1) (by omega) (by omega)
                         rw [e9] at hb
                         exact hb)
                      | (have e9 := zfB_t (c := (fwc V nk si)) (l := (fun s b => fwl V nk (nI s) (nI b))) (n := i) (fw_t c_22 (Int32.not_lt.mp c_34) (Int32.not_lt.mp c_59)) (Or.inr ((zb_n0 _).mp c_73))
                         have hb := ih_10 (i + 1) (by omega) (by omega)
                         rw [e9] at hb
                         exact hb)
                  · skip
                    refine z_iload 1 d_Tb_fewestOf_76 rfl ?_
                    refine z_istore_n (L' := [(3, _), (5, _), (4, _), (2, _), (0, _), (1, _)]) d_Tb_fewestOf_78 rfl (by decide) rfl ?_
                    refine z_iinc (v := nI (i + 1 + 1)) (L' := [(4, _), (3, _), (5, _), (2, _), (0, _), (1, _)]) 2 d_Tb_fewestOf_79 rfl (nI_1 (i + 1)) (by decide) rfl ?_
                    refine z_goto 10 d_Tb_fewestOf_82 (by decide) ?_
                    refine z_sub (L' := [(4, _), (3, _), (2, _), (0, _), (1, _)]) [0, 1, 3, 4, 5] rfl ?_
                    first
                      | (exfalso; revert c_46; decide)
                      | (have e9 := zfB_f (c := (fwc V nk si)) (l := (fun s b => fwl V nk (nI s) (nI b))) (n := i) (Or.inl (fw_1 c_22))
                         have hb := ih_10 (i + 1) (by omega) (by omega)
                         rw [e9] at hb
                         exact hb)
                      | (have e9 := zfB_f (c := (fwc V nk si)) (l := (fun s b => fwl V nk (nI s) (nI b))) (n := i) (Or.inl (fw_2 (Int32.not_le.mpr c_34)))
                         have hb := ih_10 (i + 1) (by omega) (by omega)
                         rw [e9] at hb
                         exact hb)
                      | (have e9 := zfB_f (c := (fwc V nk si)) (l := (fun s b => fwl V nk (nI s) (nI b))) (n := i) (Or.inl (fw_3 (Int32.not_le.mpr c_59)))
                         have hb := ih_10 (i + 1) (by omega) (by omega)
                         rw [e9] at hb
                         exact hb)
                      | (have e9 := zfB_f (c := (fwc V nk si)) (l := (fun s b => fwl V nk (nI s) (nI b))) (n := i) (Or.inr ⟨fun q => c_63 (congrArg nI q), (zb_0 _).mp c_73⟩)
                         have hb := ih_10 (i + 1) (by omega) (by omega)
                         rw [e9] at hb
                         exact hb)
                      | (have e9 := zfB_t (c := (fwc V nk si)) (l := (fun s b => fwl V nk (nI s) (nI b))) (n := i) (fw_t c_22 (Int32.not_lt.mp c_34) (Int32.not_lt.mp c_59)) (Or.inl (hz9.mp c_63))
                         have hb := ih_10 (i + 1) (by omega) (by omega)
                         rw [e9] at hb
                         exact hb)
                      | (have e9 := zfB_t (c := (fwc V nk si)) (l := (fun s b => fwl V nk (nI s) (nI b))) (n := i) (fw_t c_22 (Int32.not_lt.mp c_34) (Int32.not_lt.mp c_59)) (Or.inr ((zb_n0 _).mp c_73))
                         have hb := ih_10 (i + 1) (by omega) (by omega)
                         rw [e9] at hb
                         exact hb)
  exact key_10 ((zsetN (zcur (V (400 + si)) (V (200 + si) 3)) 8) + 2) 0 (by omega) (by omega)

/-! what is asked, exactly: the class's answer by T, what is thrown by P; the reference's by T -/
/-- the chances, one keeper more -/
def zrk (x : Int32) (f : Nat → UInt64) : Nat → UInt64
  | 0 => FP.ddiv (FP.dmul (f 0) (FP.i2d x)) 4636737291354636288
  | n + 1 => FP.dadd (FP.ddiv (FP.dmul (f (n + 1)) (FP.i2d x)) 4636737291354636288) (FP.ddiv (FP.dmul (f n) (FP.i2d (100 - x))) 4636737291354636288)
def zlo0 : Nat → UInt64
  | 0 => 4607182418800017408
  | _ + 1 => 0
def zlsF (c : Nat → Bool) (r : Nat → Int32) : Nat → Nat → UInt64
  | 0 => zlo0
  | i + 1 => if c i = true then zrk (r i) (zlsF c r i) else zlsF c r i
def zls (f : Nat → UInt64) : Nat → UInt64
  | 0 => 0
  | n + 1 => FP.dadd (zls f n) (f n)
theorem zlo0_n {i : Nat} (h : i ≠ 0) : zlo0 i = 0 := by
  cases i with
  | zero => exact absurd rfl h
  | succ i => rfl
theorem zrk_p {x : Int32} {f : Nat → UInt64} {i : Nat} (h : 1 ≤ i) : zrk x f i = FP.dadd (FP.ddiv (FP.dmul (f i) (FP.i2d x)) 4636737291354636288) (FP.ddiv (FP.dmul (f (i - 1)) (FP.i2d (100 - x))) 4636737291354636288) := by
  cases i with
  | zero => exact absurd h (by decide)
  | succ i => rfl
theorem zrk_congr {x : Int32} {f g : Nat → UInt64} (h : ∀ j, j < 9 → f j = g j) : ∀ j, j < 9 → zrk x f j = zrk x g j := fun j hj => by
  cases j with
  | zero =>
    show FP.ddiv (FP.dmul (f 0) (FP.i2d x)) 4636737291354636288 = FP.ddiv (FP.dmul (g 0) (FP.i2d x)) 4636737291354636288
    rw [h 0 (by decide)]
  | succ j =>
    show FP.dadd (FP.ddiv (FP.dmul (f (j + 1)) (FP.i2d x)) 4636737291354636288) (FP.ddiv (FP.dmul (f j) (FP.i2d (100 - x))) 4636737291354636288) = FP.dadd (FP.ddiv (FP.dmul (g (j + 1)) (FP.i2d x)) 4636737291354636288) (FP.ddiv (FP.dmul (g j) (FP.i2d (100 - x))) 4636737291354636288)
    rw [h (j + 1) hj, h j (by omega)]
theorem zlsF_t {c : Nat → Bool} {r : Nat → Int32} {i : Nat} (h : c i = true) : zlsF c r (i + 1) = zrk (r i) (zlsF c r i) := if_pos h
theorem zlsF_f {c : Nat → Bool} {r : Nat → Int32} {i : Nat} (h : c i = false) : zlsF c r (i + 1) = zlsF c r i := if_neg (by rw [h]; decide)
theorem zlsF_congr {c g : Nat → Bool} {r q : Nat → Int32} : ∀ n, (∀ k, k < n → c k = g k ∧ r k = q k) → zlsF c r n = zlsF g q n
  | 0, _ => rfl
  | n + 1, h => by
    unfold zlsF
    rw [zlsF_congr n (fun k hk => h k (by omega)), (h n (by omega)).1, (h n (by omega)).2]

def qLo (V : Nat → Nat → Int32) (nk si : Nat) : UInt64 := zls (zlsF (zcur (V (400 + si)) (V (200 + si) 3)) (fun k => V (100 + k) 3) nk) (V (200 + si) 0).toNatClampNeg
def tLo (V : Nat → Nat → Int32) (nk ns : Nat) (x : Int32) (u : UInt64) : Prop := zmg u 1400 ∧ ∃ si, si < ns ∧ x = nI si ∧ u = qLo V nk si

set_option maxHeartbeats 4000000 in
set_option maxRecDepth 100000 in
theorem m_Tb_riskOneE {g0 : State} {d : zD} {l : Launch} {a0 : Array Value} (hs0 : zS0 d a0 g0) (hst : l.stackTraces = false) {G : zG} {A : Nat → Nat} {D : Nat → UInt64} {V : Nat → Nat → Int32} {nk ns : Nat} (hT : zT d A D V nk ns G) (x : Int32) {K : Nat} (hK : 1024 ≤ K) (hK2 : K ≤ 1700) (hD : ∀ j, j < 9 → zmg (D j) K) : zMet g0 d l y_Tb_riskOne c_Tb_riskOne 3 ((Option.none : Option Jvm.ClassFile.FieldType)) 1 0 0 [.ref (A 0), .int x] (G) (fun r G1 => r = none ∧ ∃ D', zT d A D' V nk ns G1 ∧ (∀ j, j < 9 → zmg (D' j) (K + 35)) ∧ (∀ j, j < 9 → D' j = zrk x D j) ∧ tFr A nk ns G G1) (zNo) := by
  have hG_Tb := hT.tb
  have hnk : nk ≤ 8 := hT.2.1
  have hns : ns ≤ 6 := hT.2.2.1
  refine z_entry hs0 hst (by decide) (Nat.le_of_ble_eq_true rfl) (fun p e s m args below meth c => ?_)
  refine z_aload_n 0 d_Tb_riskOne_0 rfl rfl ?_
  refine z_get zc_Tb 5 (by decide) qF_Tb_40 hT.tb rfl d_Tb_riskOne_1 ?_
  refine z_alenD hT.ch d_Tb_riskOne_4 ?_
  refine z_iconst (v := 1) d_Tb_riskOne_5 (by decide) ?_
  refine z_isub d_Tb_riskOne_6 ?_
  refine z_topv (v := nI 8) (by decide) ?_
  refine z_istore_n (L' := [(2, _), (0, _), (1, _)]) d_Tb_riskOne_7 rfl (by decide) rfl ?_
  have key_8 : ∀ (n : Nat) (i : Nat) (G2 : zG) (D2 : Nat → UInt64), i < n → (i ≤ 8) → (zT d A D2 V nk ns G2) → (tFr A nk ns G G2) → (∀ j, j < 9 → zmg (D2 j) (K + 35)) → (∀ j, j ≤ i → zmg (D2 j) K) → (∀ j, j < 9 → D2 j = if i < j then zrk x D j else D j) → Z g0 d y_Tb_riskOne c_Tb_riskOne 3 ((Option.none : Option Jvm.ClassFile.FieldType)) [] p l e (zR 1 0 0) s m args below meth c (vx_MQ below (zQc g0 d (fun r G1 => r = none ∧ ∃ D', zT d A D' V nk ns G1 ∧ (∀ j, j < 9 → zmg (D' j) (K + 35)) ∧ (∀ j, j < 9 → D' j = zrk x D j) ∧ tFr A nk ns G G1)) (zXc g0 d (zNo)) args s 0 0 (zA g0)) 0 0 (G2) [(2, .int (nI i)), (0, .ref (A 0)), (1, .int x)] [] 8 := by
    intro n
    induction n with
    | zero => intro i G2 D2 h0; exact absurd h0 (Nat.not_lt_zero _)
    | succ n ih_8 =>
      intro i G2 D2 hm_8 hi hT2 hF2 hm1 hm2 hx9
      refine z_iload_n 0 d_Tb_riskOne_8 rfl rfl ?_
      refine z_iconst (v := 1) d_Tb_riskOne_9 (by decide) ?_
      refine z_icmp_lt 57 d_Tb_riskOne_10 (by decide) (fun c_10 => ?_) (fun c_10 => ?_)
      · skip
        have m0 := zmg_m (hm2 0 (by omega)) (zmg_i x) (by omega) (by omega)
        have v0 := zmg_d m0 (by omega) (by omega)
        have hi0 : i = 0 := by
          have := (nI_ltI (a := i) (b := 1) (by omega) (by decide)).mp c_10
          omega
        refine z_aload_n 1 d_Tb_riskOne_57 rfl rfl ?_
        refine z_get zc_Tb 5 (by decide) qF_Tb_40 hT2.tb rfl d_Tb_riskOne_58 ?_
        refine z_alenD hT2.ch d_Tb_riskOne_61 ?_
        refine z_if_le 84 d_Tb_riskOne_62 (by decide) (fun c_62 => absurd c_62 (by decide)) (fun c_62 => ?_)
        refine z_aload_n 1 d_Tb_riskOne_65 rfl rfl ?_
        refine z_get zc_Tb 5 (by decide) qF_Tb_40 hT2.tb rfl d_Tb_riskOne_66 ?_
        refine z_iconst (v := (nI 0)) d_Tb_riskOne_69 (by decide) ?_
        refine z_aload_n 1 d_Tb_riskOne_70 rfl rfl ?_
        refine z_get zc_Tb 5 (by decide) qF_Tb_40 hT2.tb rfl d_Tb_riskOne_71 ?_
        refine z_iconst (v := (nI 0)) d_Tb_riskOne_74 (by decide) ?_
        refine z_daldN hT2.ch ((show 0 < 9 by decide)) (by decide) d_Tb_riskOne_75 ?_
        refine z_iload_n 2 d_Tb_riskOne_76 rfl rfl ?_
        refine z_i2d d_Tb_riskOne_77 ?_
        refine z_dmul d_Tb_riskOne_78 (m0.nn (by omega)) ?_
        refine z_ldc2d qXd_Tb_381 d_Tb_riskOne_79 ?_
        refine z_ddiv d_Tb_riskOne_82 (v0.nn (by omega)) ?_
        refine z_dastN hT2.ch ((show 0 < 9 by decide)) (by decide) d_Tb_riskOne_83 ?_
        exact z_vret rfl (⟨rfl, _, hT2.putD _, fun j hj => by
            by_cases ej : j = 0
            · subst ej; rw [vu_s]; exact v0.mono (by omega)
            · rw [vu_n ej]; exact hm1 j hj, fun j hj => by
            by_cases ej : j = 0
            · subst ej
              have h1 := hx9 0 (by decide)
              rw [if_neg (by omega)] at h1
              rw [vu_s, h1]
              rfl
            · rw [vu_n ej, hx9 j hj, if_pos (by omega)], hF2.tr (zT.frput (tl_s 15) rfl)⟩) (by first | decide | omega) (by first | decide | omega) d_Tb_riskOne_84
      · skip
        have hi1 : 1 ≤ i := Nat.le_of_not_lt fun q => c_10 ((nI_ltI (a := i) (b := 1) (by omega) (by decide)).mpr q)
        have m1 := zmg_m (hm2 i (by omega)) (zmg_i x) (by omega) (by omega)
        have v1 := zmg_d m1 (by omega) (by omega)
        have m2 := zmg_m (hm2 (i - 1) (by omega)) (zmg_i (100 - x)) (by omega) (by omega)
        have v2 := zmg_d m2 (by omega) (by omega)
        have ms := zmg_a v1 v2 (by omega)
        refine z_aload_n 1 d_Tb_riskOne_13 rfl rfl ?_
        refine z_get zc_Tb 5 (by decide) qF_Tb_40 hT2.tb rfl d_Tb_riskOne_14 ?_
        refine z_iload_n 0 d_Tb_riskOne_17 rfl rfl ?_
        refine z_aload_n 1 d_Tb_riskOne_18 rfl rfl ?_
        refine z_get zc_Tb 5 (by decide) qF_Tb_40 hT2.tb rfl d_Tb_riskOne_19 ?_
        refine z_iload_n 0 d_Tb_riskOne_22 rfl rfl ?_
        refine z_daldN hT2.ch ((show i < 9 by omega)) (by decide) d_Tb_riskOne_23 ?_
        refine z_iload_n 2 d_Tb_riskOne_24 rfl rfl ?_
        refine z_i2d d_Tb_riskOne_25 ?_
        refine z_dmul d_Tb_riskOne_26 (m1.nn (by omega)) ?_
        refine z_ldc2d qXd_Tb_381 d_Tb_riskOne_27 ?_
        refine z_ddiv d_Tb_riskOne_30 (v1.nn (by omega)) ?_
        refine z_aload_n 1 d_Tb_riskOne_31 rfl rfl ?_
        refine z_get zc_Tb 5 (by decide) qF_Tb_40 hT2.tb rfl d_Tb_riskOne_32 ?_
        refine z_iload_n 0 d_Tb_riskOne_35 rfl rfl ?_
        refine z_iconst (v := 1) d_Tb_riskOne_36 (by decide) ?_
        refine z_isub d_Tb_riskOne_37 ?_
        refine z_topv (nI_s1 hi1 (by omega)) ?_
        refine z_daldN hT2.ch ((show i - 1 < 9 by omega)) (by decide) d_Tb_riskOne_38 ?_
        refine z_bipush (v := 100) d_Tb_riskOne_39 (by decide) ?_
        refine z_iload_n 2 d_Tb_riskOne_41 rfl rfl ?_
        refine z_isub d_Tb_riskOne_42 ?_
        refine z_i2d d_Tb_riskOne_43 ?_
        refine z_dmul d_Tb_riskOne_44 (m2.nn (by omega)) ?_
        refine z_ldc2d qXd_Tb_381 d_Tb_riskOne_45 ?_
        refine z_ddiv d_Tb_riskOne_48 (v2.nn (by omega)) ?_
        refine z_dadd d_Tb_riskOne_49 (ms.nn (by omega)) ?_
        refine z_dastN hT2.ch ((show i < 9 by omega)) (by decide) d_Tb_riskOne_50 ?_
        have hT3 := hT2.putD (vf_upd D2 i (FP.dadd (FP.ddiv (FP.dmul (D2 i) (FP.i2d x)) 4636737291354636288) (FP.ddiv (FP.dmul (D2 (i - 1)) (FP.i2d (100 - x))) 4636737291354636288)))
        refine z_iinc (v := nI (i - 1)) (L' := [(2, _), (0, _), (1, _)]) 0 d_Tb_riskOne_51 rfl ((z_m1 _).trans (nI_s1 hi1 (by omega))) (by decide) rfl ?_
        refine z_goto 8 d_Tb_riskOne_54 (by decide) ?_
        refine ih_8 (i - 1) _ _ (by omega) (by omega) hT3 (hF2.tr (zT.frput (tl_s 15) rfl)) (fun j hj => ?_) (fun j hj => ?_) (fun j hj => ?_)
        · by_cases ej : j = i
          · subst ej; rw [vu_s]; exact ms
          · rw [vu_n ej]; exact hm1 j hj
        · rw [vu_n (by omega)]; exact hm2 j (by omega)
        · by_cases ej : j = i
          · subst ej
            have h1 := hx9 j hj
            rw [if_neg (Nat.lt_irrefl j)] at h1
            have h2 := hx9 (j - 1) (by omega)
            rw [if_neg (by omega)] at h2
            rw [vu_s, if_pos (by omega), zrk_p hi1, h1, h2]
          · rw [vu_n ej, hx9 j hj]
            by_cases c : i < j
            · rw [if_pos c, if_pos (by omega)]
            · rw [if_neg c, if_neg (by omega)]
  exact key_8 9 8 G D (by omega) (by omega) hT zFr.rf (fun j hj => (hD j hj).mono (by omega)) (fun j hj => hD j (by omega)) (fun j hj => by rw [if_neg (by omega)])
set_option maxHeartbeats 4000000 in
set_option maxRecDepth 100000 in
theorem m_Tb_chanceLostE {g0 : State} {d : zD} {l : Launch} {a0 : Array Value} (hs0 : zS0 d a0 g0) (hst : l.stackTraces = false) {G : zG} {A : Nat → Nat} {D : Nat → UInt64} {V : Nat → Nat → Int32} {nk ns : Nat} (hT : zT d A D V nk ns G) {si : Nat} (hsi : si < ns) : zMet g0 d l y_Tb_chanceLost c_Tb_chanceLost 5 ((Option.some Jvm.ClassFile.FieldType.double)) 11 0 0 [.ref (A 0), .ref (A (200 + si))] (G) (zTu d A nk ns V G (fun r => r = some (.double (zls (zlsF (zcur (V (400 + si)) (V (200 + si) 3)) (fun k => V (100 + k) 3) nk) (V (200 + si) 0).toNatClampNeg)) ∧ zmg (zls (zlsF (zcur (V (400 + si)) (V (200 + si) 3)) (fun k => V (100 + k) 3) nk) (V (200 + si) 0).toNatClampNeg) 1400)) (zNo) := by
  have hG_Tb := hT.tb
  have hnk : nk ≤ 8 := hT.2.1
  have hns : ns ≤ 6 := hT.2.2.1
  obtain ⟨t, ht1, ht4, ht⟩ := hT.tn hsi
  refine z_entry hs0 hst (by decide) (Nat.le_of_ble_eq_true rfl) (fun p e s m args below meth c => ?_)
  refine z_iconst (v := (nI 0)) d_Tb_chanceLost_0 (by decide) ?_
  refine z_istore_n (L' := [(2, _), (0, _), (1, _)]) d_Tb_chanceLost_1 rfl (by decide) rfl ?_
  have key_2 : ∀ (n : Nat) (i : Nat) (G2 : zG) (D2 : Nat → UInt64), 9 - i < n → (i ≤ 9) → (zT d A D2 V nk ns G2) → (tFr A nk ns G G2) → (∀ j, j < i → zmg (D2 j) 1024) → (∀ j, j < i → D2 j = zlo0 j) → Z g0 d y_Tb_chanceLost c_Tb_chanceLost 5 ((Option.some Jvm.ClassFile.FieldType.double)) [] p l e (zR 11 0 0) s m args below meth c (vx_MQ below (zQc g0 d (zTu d A nk ns V G (fun r => r = some (.double (zls (zlsF (zcur (V (400 + si)) (V (200 + si) 3)) (fun k => V (100 + k) 3) nk) (V (200 + si) 0).toNatClampNeg)) ∧ zmg (zls (zlsF (zcur (V (400 + si)) (V (200 + si) 3)) (fun k => V (100 + k) 3) nk) (V (200 + si) 0).toNatClampNeg) 1400))) (zXc g0 d (zNo)) args s 0 0 (zA g0)) 0 0 (G2) [(2, .int (nI i)), (0, .ref (A 0)), (1, .ref (A (200 + si)))] [] 2 := by
    intro n
    induction n with
    | zero => intro i G2 D2 h0; exact absurd h0 (Nat.not_lt_zero _)
    | succ n ih_2 =>
      intro i G2 D2 hm_2 hi hT2 hF2 hm2 hx2
      refine z_iload_n 0 d_Tb_chanceLost_2 rfl rfl ?_
      refine z_aload_n 1 d_Tb_chanceLost_3 rfl rfl ?_
      refine z_get zc_Tb 5 (by decide) qF_Tb_40 hT2.tb rfl d_Tb_chanceLost_4 ?_
      refine z_alenD hT2.ch d_Tb_chanceLost_7 ?_
      refine z_icmp_ge 32 d_Tb_chanceLost_8 (by decide) (fun c_8 => ?_) (fun c_8 => ?_)
      · skip
        obtain rfl : i = 9 := by
          have := (nI_leI (a := 9) (b := i) (by decide) (by omega)).mp c_8
          omega
        refine z_iconst (v := (nI 0)) d_Tb_chanceLost_32 (by decide) ?_
        refine z_istore_n (L' := [(2, _), (0, _), (1, _)]) d_Tb_chanceLost_33 rfl (by decide) rfl ?_
        have key_34 : ∀ (n : Nat) (i : Nat) (G2 : zG) (D2 : Nat → UInt64), nk - i < n → (i ≤ nk) → (zT d A D2 V nk ns G2) → (tFr A nk ns G G2) → (∀ j, j < 9 → zmg (D2 j) (1024 + 35 * i)) → (∀ j, j < 9 → D2 j = zlsF (zcur (V (400 + si)) (V (200 + si) 3)) (fun k => V (100 + k) 3) i j) → Z g0 d y_Tb_chanceLost c_Tb_chanceLost 5 ((Option.some Jvm.ClassFile.FieldType.double)) [] p l e (zR 11 0 0) s m args below meth c (vx_MQ below (zQc g0 d (zTu d A nk ns V G (fun r => r = some (.double (zls (zlsF (zcur (V (400 + si)) (V (200 + si) 3)) (fun k => V (100 + k) 3) nk) (V (200 + si) 0).toNatClampNeg)) ∧ zmg (zls (zlsF (zcur (V (400 + si)) (V (200 + si) 3)) (fun k => V (100 + k) 3) nk) (V (200 + si) 0).toNatClampNeg) 1400))) (zXc g0 d (zNo)) args s 0 0 (zA g0)) 0 0 (G2) [(2, .int (nI i)), (0, .ref (A 0)), (1, .ref (A (200 + si)))] [] 34 := by
          intro n
          induction n with
          | zero => intro i G2 D2 h0; exact absurd h0 (Nat.not_lt_zero _)
          | succ n ih_34 =>
            intro i G2 D2 hm_34 hi hT2 hF2 hm2 hx2
            refine z_iload_n 0 d_Tb_chanceLost_34 rfl rfl ?_
            refine z_aload_n 1 d_Tb_chanceLost_35 rfl rfl ?_
            refine z_get zc_Tb 0 (by decide) qF_Tb_10 hT2.tb rfl d_Tb_chanceLost_36 ?_
            refine z_callV0 (m_AL_size hs0 hst hT2.kl) ym_AL_size qM_Tb_68 qI_AL_size qV_AL_AL_size zc_AL hT2.kl d_Tb_chanceLost_39 rfl (Nat.le_of_ble_eq_true rfl) ⟨Nat.zero_le _, Nat.zero_le _⟩ ⟨Nat.le_of_ble_eq_true rfl, Nat.le_of_ble_eq_true rfl⟩ ?_
            refine z_icmp_ge 77 d_Tb_chanceLost_42 (by decide) (fun c_42 => ?_) (fun c_42 => ?_)
            · skip
              obtain rfl : nk = i := by
                have := (nI_leI (a := nk) (b := i) (by omega) (by omega)).mp c_42
                omega
              have hm5 : ∀ j, j < 9 → zmg (zlsF (zcur (V (400 + si)) (V (200 + si) 3)) (fun k => V (100 + k) 3) nk j) 1304 := fun j hj => by rw [← hx2 j hj]; exact (hm2 j hj).mono (by omega)
              refine z_dconst0 d_Tb_chanceLost_77 ?_
              refine z_dstore_n (L' := [(2, _), (0, _), (1, _)]) d_Tb_chanceLost_78 rfl (by decide) rfl ?_
              refine z_iconst (v := (nI 0)) d_Tb_chanceLost_79 (by decide) ?_
              refine z_istore (L' := [(4, _), (2, _), (0, _), (1, _)]) d_Tb_chanceLost_80 (by decide) rfl ?_
              have key_82 : ∀ (n : Nat) (i : Nat), t - i < n → (i ≤ t) → (zmg (zls (zlsF (zcur (V (400 + si)) (V (200 + si) 3)) (fun k => V (100 + k) 3) nk) i) (1304 + 2 * i)) → Z g0 d y_Tb_chanceLost c_Tb_chanceLost 5 ((Option.some Jvm.ClassFile.FieldType.double)) [] p l e (zR 11 0 0) s m args below meth c (vx_MQ below (zQc g0 d (zTu d A nk ns V G (fun r => r = some (.double (zls (zlsF (zcur (V (400 + si)) (V (200 + si) 3)) (fun k => V (100 + k) 3) nk) (V (200 + si) 0).toNatClampNeg)) ∧ zmg (zls (zlsF (zcur (V (400 + si)) (V (200 + si) 3)) (fun k => V (100 + k) 3) nk) (V (200 + si) 0).toNatClampNeg) 1400))) (zXc g0 d (zNo)) args s 0 0 (zA g0)) 0 0 (G2) [(4, .int (nI i)), (2, .double (zls (zlsF (zcur (V (400 + si)) (V (200 + si) 3)) (fun k => V (100 + k) 3) nk) i)), (0, .ref (A 0)), (1, .ref (A (200 + si)))] [] 82 := by
                intro n
                induction n with
                | zero => intro i h0; exact absurd h0 (Nat.not_lt_zero _)
                | succ n ih_82 =>
                  intro i hm_82 hi hv
                  refine z_iload 0 d_Tb_chanceLost_82 rfl ?_
                  refine z_aload_n 3 d_Tb_chanceLost_84 rfl rfl ?_
                  refine z_get zc_Se 0 (by decide) qF_Tb_147 (hT2.se hsi).1 rfl d_Tb_chanceLost_85 ?_
                  refine z_topv ht ?_
                  refine z_icmp_ge 117 d_Tb_chanceLost_88 (by decide) (fun c_88 => ?_) (fun c_88 => ?_)
                  · skip
                    obtain rfl : t = i := by
                      have := (nI_leI (a := t) (b := i) (by omega) (by omega)).mp c_88
                      omega
                    refine z_dload_n 1 d_Tb_chanceLost_117 rfl rfl ?_
                    exact z_dret rfl (⟨by rw [ht, nI_clamp (by omega)]; exact ⟨rfl, hv.mono (by omega)⟩, D2, V, hT2, zKo.rf, hF2⟩) (by first | decide | omega) (by first | decide | omega) d_Tb_chanceLost_118
                  · skip
                    have hi6 : i < t := Nat.lt_of_not_le fun q => c_88 (nI_le q (by omega))
                    refine z_iload 0 d_Tb_chanceLost_91 rfl ?_
                    refine z_aload_n 2 d_Tb_chanceLost_93 rfl rfl ?_
                    refine z_get zc_Tb 5 (by decide) qF_Tb_40 hT2.tb rfl d_Tb_chanceLost_94 ?_
                    refine z_alenD hT2.ch d_Tb_chanceLost_97 ?_
                    refine z_icmp_ge 117 d_Tb_chanceLost_98 (by decide) (fun c_98 => absurd ((nI_leI (a := 9) (b := i) (by decide) (by omega)).mp c_98) (by omega)) (fun c_98 => ?_)
                    refine z_dload_n 1 d_Tb_chanceLost_101 rfl rfl ?_
                    refine z_aload_n 2 d_Tb_chanceLost_102 rfl rfl ?_
                    refine z_get zc_Tb 5 (by decide) qF_Tb_40 hT2.tb rfl d_Tb_chanceLost_103 ?_
                    refine z_iload 0 d_Tb_chanceLost_106 rfl ?_
                    refine z_daldN hT2.ch ((show i < 9 by omega)) (by decide) d_Tb_chanceLost_108 ?_
                    rw [hx2 i (by omega)]
                    refine z_dadd d_Tb_chanceLost_109 ((zmg_a hv ((hm5 i (by omega)).mono (by omega)) (by omega)).nn (by omega)) ?_
                    refine z_dstore_n (L' := [(2, _), (4, _), (0, _), (1, _)]) d_Tb_chanceLost_110 rfl (by decide) rfl ?_
                    refine z_iinc (v := nI (i + 1)) (L' := [(4, _), (2, _), (0, _), (1, _)]) 1 d_Tb_chanceLost_111 rfl (nI_1 i) (by decide) rfl ?_
                    refine z_goto 82 d_Tb_chanceLost_114 (by decide) ?_
                    exact ih_82 (i + 1) (by omega) (by omega) ((zmg_a hv ((hm5 i (by omega)).mono (by omega)) (by omega)).mono (by omega))
              exact key_82 (t + 1) 0 (by omega) (by omega) (zmg_0.mono (by omega))
            · skip
              have hi6 : i < nk := Nat.lt_of_not_le fun q => c_42 (nI_le q (by omega))
              refine z_aload_n 2 d_Tb_chanceLost_45 rfl rfl ?_
              refine z_iload_n 0 d_Tb_chanceLost_46 rfl rfl ?_
              refine z_callV0 (m_Se_isCurrent hs0 hst (hT2.se hsi) (show i < 8 by omega)) ym_Se_isCurrent qM_Tb_179 qI_Se_isCurrent qV_Se_Se_isCurrent zc_Se (hT2.se hsi).1 d_Tb_chanceLost_47 rfl (Nat.le_of_ble_eq_true rfl) ⟨Nat.zero_le _, Nat.zero_le _⟩ ⟨Nat.le_of_ble_eq_true rfl, Nat.le_of_ble_eq_true rfl⟩ ?_
              refine z_if_eq 71 d_Tb_chanceLost_50 (by decide) (fun c_50 => ?_) (fun c_50 => ?_)
              · skip
                have hcn : (zcur (V (400 + si)) (V (200 + si) 3)) i = false := (zb_0 _).mp c_50
                refine z_iinc (v := nI (i + 1)) (L' := [(2, _), (0, _), (1, _)]) 0 d_Tb_chanceLost_71 rfl (nI_1 i) (by decide) rfl ?_
                refine z_goto 34 d_Tb_chanceLost_74 (by decide) ?_
                first
                  | exact ih_34 (i + 1) _ _ (by omega) (by omega) hT3 (hF2.tr hF3) (fun j hj => (hm3 j hj).mono (by omega)) (fun j hj => (hx3 j hj).trans ((zrk_congr hx2 j hj).trans (congrFun (zlsF_t (r := (fun k => V (100 + k) 3)) hcu).symm j)))
                  | exact ih_34 (i + 1) _ _ (by omega) (by omega) hT2 hF2 (fun j hj => (hm2 j hj).mono (by omega)) (fun j hj => (hx2 j hj).trans (congrFun (zlsF_f (r := (fun k => V (100 + k) 3)) hcn).symm j))
              · skip
                have hcu : (zcur (V (400 + si)) (V (200 + si) 3)) i = true := (zb_n0 _).mp c_50
                refine z_aload_n 1 d_Tb_chanceLost_53 rfl rfl ?_
                refine z_aload_n 1 d_Tb_chanceLost_54 rfl rfl ?_
                refine z_get zc_Tb 0 (by decide) qF_Tb_10 hT2.tb rfl d_Tb_chanceLost_55 ?_
                refine z_iload_n 0 d_Tb_chanceLost_58 rfl rfl ?_
                refine z_callV0 (m_AL_get hs0 hst (hT2.kA hi6) hi6 (if_pos hi6)) ym_AL_get qM_Tb_166 qI_AL_get qV_AL_AL_get zc_AL (hT2.kA hi6).1 d_Tb_chanceLost_59 rfl (Nat.le_of_ble_eq_true rfl) ⟨Nat.zero_le _, Nat.zero_le _⟩ ⟨Nat.le_of_ble_eq_true rfl, Nat.le_of_ble_eq_true rfl⟩ ?_
                refine z_castS zc_Ke qK_Tb_77 (hT2.ke hi6) d_Tb_chanceLost_62 ?_
                refine z_get zc_Ke 3 (by decide) qF_Tb_375 (hT2.ke hi6) rfl d_Tb_chanceLost_65 ?_
                refine z_callVp0 ((m_Tb_riskOneE hs0 hst hT2 (V (100 + i) 3) (K := 1024 + 35 * i) (by omega) (by omega) hm2)) ym_Tb_riskOne qM_Tb_378 qI_Tb_riskOne qV_Tb_Tb_riskOne zc_Tb hT2.tb d_Tb_chanceLost_68 rfl (Nat.le_of_ble_eq_true rfl) ⟨Nat.zero_le _, Nat.zero_le _⟩ ⟨Nat.le_of_ble_eq_true rfl, Nat.le_of_ble_eq_true rfl⟩ (fun r_68 G_68 hp_68 => ?_)
                obtain ⟨rfl, D3, hT3, hm3, hx3, hF3⟩ := hp_68
                refine z_iinc (v := nI (i + 1)) (L' := [(2, _), (0, _), (1, _)]) 0 d_Tb_chanceLost_71 rfl (nI_1 i) (by decide) rfl ?_
                refine z_goto 34 d_Tb_chanceLost_74 (by decide) ?_
                first
                  | exact ih_34 (i + 1) _ _ (by omega) (by omega) hT3 (hF2.tr hF3) (fun j hj => (hm3 j hj).mono (by omega)) (fun j hj => (hx3 j hj).trans ((zrk_congr hx2 j hj).trans (congrFun (zlsF_t (r := (fun k => V (100 + k) 3)) hcu).symm j)))
                  | exact ih_34 (i + 1) _ _ (by omega) (by omega) hT2 hF2 (fun j hj => (hm2 j hj).mono (by omega)) (fun j hj => (hx2 j hj).trans (congrFun (zlsF_f (r := (fun k => V (100 + k) 3)) hcn).symm j))
        exact key_34 (nk + 1) 0 _ _ (by omega) (by omega) hT2 hF2 (fun j hj => (hm2 j hj).mono (by omega)) (fun j hj => hx2 j hj)
      · skip
        have hi6 : i < 9 := Nat.lt_of_not_le fun q => c_8 (nI_le (a := 9) (b := i) q (by omega))
        refine z_aload_n 1 d_Tb_chanceLost_11 rfl rfl ?_
        refine z_get zc_Tb 5 (by decide) qF_Tb_40 hT2.tb rfl d_Tb_chanceLost_12 ?_
        refine z_iload_n 0 d_Tb_chanceLost_15 rfl rfl ?_
        refine z_iload_n 0 d_Tb_chanceLost_16 rfl rfl ?_
        refine z_if_ne 24 d_Tb_chanceLost_17 (by decide) (fun c_17 => ?_) (fun c_17 => ?_)
        · skip
          have hz17 : zlo0 i = 0 := zlo0_n (fun q => c_17 (by rw [q]; exact nI_0))
          refine z_dconst0 d_Tb_chanceLost_24 ?_
          refine z_dastN hT2.ch (hi6) (by decide) d_Tb_chanceLost_25 ?_
          refine z_iinc (v := nI (i + 1)) (L' := [(2, _), (0, _), (1, _)]) 0 d_Tb_chanceLost_26 rfl (nI_1 i) (by decide) rfl ?_
          refine z_goto 2 d_Tb_chanceLost_29 (by decide) ?_
          refine ih_2 (i + 1) _ _ (by omega) (by omega) (hT2.putD _) (hF2.tr (zT.frput (tl_s 15) rfl)) (fun j hj => ?_) (fun j hj => ?_)
          · by_cases ej : j = i
            · subst ej; rw [vu_s]; first | exact zmg_1 | exact zmg_0
            · rw [vu_n ej]; exact hm2 j (by omega)
          · by_cases ej : j = i
            · subst ej; rw [vu_s]; exact hz17.symm
            · rw [vu_n ej]; exact hx2 j (by omega)
        · skip
          have hz17 : zlo0 i = 4607182418800017408 := by rw [(nI_z (by omega)).mp c_17]; rfl
          refine z_dconst1 d_Tb_chanceLost_20 ?_
          refine z_goto 25 d_Tb_chanceLost_21 (by decide) ?_
          refine z_dastN hT2.ch (hi6) (by decide) d_Tb_chanceLost_25 ?_
          refine z_iinc (v := nI (i + 1)) (L' := [(2, _), (0, _), (1, _)]) 0 d_Tb_chanceLost_26 rfl (nI_1 i) (by decide) rfl ?_
          refine z_goto 2 d_Tb_chanceLost_29 (by decide) ?_
          refine ih_2 (i + 1) _ _ (by omega) (by omega) (hT2.putD _) (hF2.tr (zT.frput (tl_s 15) rfl)) (fun j hj => ?_) (fun j hj => ?_)
          · by_cases ej : j = i
            · subst ej; rw [vu_s]; first | exact zmg_1 | exact zmg_0
            · rw [vu_n ej]; exact hm2 j (by omega)
          · by_cases ej : j = i
            · subst ej; rw [vu_s]; exact hz17.symm
            · rw [vu_n ej]; exact hx2 j (by omega)
  exact key_2 10 0 _ _ (by omega) (by omega) hT zFr.rf (fun j hj => absurd hj (Nat.not_lt_zero _)) (fun j hj => absurd hj (Nat.not_lt_zero _))

/-! what is asked, exactly: the class's answer by T, what is thrown by P; the reference's by T -/
theorem zall_iff {f : Nat → Bool} : ∀ n, zall f n = true ↔ ∀ k, k < n → f k = true
  | 0 => ⟨fun _ k hk => absurd hk (Nat.not_lt_zero k), fun _ => rfl⟩
  | n + 1 => by
    have ih := zall_iff (f := f) n
    show (zall f n && f n) = true ↔ _
    rw [Bool.and_eq_true, ih]
    constructor
    · rintro ⟨h1, h2⟩ k hk
      by_cases e : k = n
      · subst e; exact h2
      · exact h1 k (by omega)
    · intro h
      exact ⟨fun k hk => h k (by omega), h n (by omega)⟩
/-- point n agrees, or it is one of the first t, or none -/
def roK (inv gv : Nat → Int32) (f : Nat → Bool) (t n : Nat) : Bool := !f n || (decide (zcnt f n < t) || decide (zth inv gv (nI (zsetN (zfs f t) 9)) (nI n) = gv n))
section ZOC
variable {inv gv : Nat → Int32} {iv : Nat → Nat} {f : Nat → Bool} {t : Nat}
theorem zfs_t {n : Nat} (h : f n = true) (h2 : zcnt f n < t) : zfs f t n = true := by unfold zfs; rw [h, decide_eq_true h2]; rfl
theorem zfs_f {n : Nat} (h : f n = false ∨ ¬ zcnt f n < t) : zfs f t n = false := by
  unfold zfs
  rcases h with h | h
  · rw [h, Bool.false_and]
  · rw [decide_eq_false h, Bool.and_false]
theorem zoc_N {ps : Int32} (ht : t < 2 ^ 20) (hps : ∀ k, k < 9 → zbt ps k = f k) : ∀ n, n ≤ 9 → zoc ps (nI t) n = nI (zsetN (zfs f t) n)
  | 0, _ => rfl
  | n + 1, h => by
    have ih := zoc_N ht hps n (by omega)
    have hl := (zset_N (zfs f t) n (by omega)).2
    have p2 : 2 ^ n ≤ 2 ^ 8 := Nat.pow_le_pow_right (by decide) (by omega)
    have hc := zcnt_n (f := f) n
    have e : zbc (nI (zsetN (zfs f t) n)) = nI (min t (zcnt f n)) := by rw [zbc_512 _ (by omega), zpop_cnt _ n (by omega), zfs_cnt]
    have hstep : zsetN (zfs f t) (n + 1) = zsetN (zfs f t) n + (if zfs f t n = true then 2 ^ n else 0) := rfl
    unfold zoc
    rw [ih, e, hps n (by omega)]
    by_cases c : f n = true ∧ zcnt f n < t
    · rw [if_pos ⟨c.1, nI_lt (by omega) (by omega)⟩]
      exact zsN_t (by omega) (zfs_t c.1 c.2)
    · rw [if_neg (fun q => c ⟨q.1, by have := (nI_ltI (by omega) (by omega)).mp q.2; omega⟩)]
      have : zfs f t n = false := zfs_f (by
        cases hf : f n with
        | false => exact Or.inl rfl
        | true => exact Or.inr (fun z => c ⟨hf, z⟩))
      rw [hstep, this]
      rfl
theorem zag_ps {ps set : Int32} (hps : ps = nI (zsetN f 9)) : zag inv gv ps set = ps ↔ ∀ k, k < 9 → f k = true → zth inv gv set (nI k) = gv k := by
  have hl := (zset_N f 9 (by decide)).2
  have hb : ∀ k, k < 9 → zbt ps k = f k := fun k hk => by rw [hps, tb_zbt _ (by omega) k hk, zsN_at f 9 (by decide) k hk, decide_eq_true hk, Bool.true_and]
  have hl2 := (zset_N (zagf inv gv ps set) 9 (by decide)).2
  unfold zag
  rw [(zset_N _ 9 (by decide)).1]
  constructor
  · intro h k hk hf
    have e : zsetN (zagf inv gv ps set) 9 = zsetN f 9 := (nI_eq (by omega) (by omega)).mp (h.trans hps)
    have h1 := zsN_at (zagf inv gv ps set) 9 (by decide) k hk
    rw [e, zsN_at f 9 (by decide) k hk, decide_eq_true hk, Bool.true_and, Bool.true_and, hf] at h1
    unfold zagf at h1
    rw [hb k hk, hf, Bool.true_and] at h1
    exact of_decide_eq_true h1.symm
  · intro h
    rw [hps]
    refine congrArg nI (zsN_congr 9 fun k hk => ?_)
    unfold zagf
    rw [← hps, hb k hk]
    cases hf : f k with
    | false => exact Bool.false_and _
    | true => rw [decide_eq_true (h k hk hf), Bool.and_true]
/-- the class's way: all the points agree with the curve of the first t -/
theorem oc_all (hi : zIv inv iv) (hv : zVv iv) {ps : Int32} (hps : ps = nI (zsetN f 9)) (ht : t < 2 ^ 20) (hg : ∀ k, k < 9 → f k = true → gv k = nI (gv k).toNatClampNeg ∧ (gv k).toNatClampNeg < 97) : decide (zag inv gv ps (zoc ps (nI t) 9) = ps) = zall (roK inv gv f t) 9 := by
  have hl := (zset_N f 9 (by decide)).2
  have hl2 := (zset_N (zfs f t) 9 (by decide)).2
  have hb : ∀ k, k < 9 → zbt ps k = f k := fun k hk => by rw [hps, tb_zbt _ (by omega) k hk, zsN_at f 9 (by decide) k hk, decide_eq_true hk, Bool.true_and]
  have hb2 : ∀ k, k < 9 → zbt (nI (zsetN (zfs f t) 9)) k = zfs f t k := fun k hk => by rw [tb_zbt _ (by omega) k hk, zsN_at _ 9 (by decide) k hk, decide_eq_true hk, Bool.true_and]
  have hsub : ∀ k, zfs f t k = true → f k = true := fun k h => by unfold zfs at h; rw [Bool.and_eq_true] at h; exact h.1
  rw [zoc_N ht hb 9 (Nat.le_refl 9), Bool.eq_iff_iff, decide_eq_true_eq, zag_ps hps, zall_iff]
  constructor
  · intro h k hk
    unfold roK
    cases hf : f k with
    | false => rw [Bool.not_false, Bool.true_or]
    | true => rw [decide_eq_true (h k hk hf), Bool.or_true, Bool.or_true]
  · intro h k hk hf
    have := h k hk
    unfold roK at this
    rw [hf, Bool.not_true, Bool.false_or, Bool.or_eq_true, decide_eq_true_eq, decide_eq_true_eq] at this
    rcases this with c | c
    · exact zth_own hi hv hb2 (fun k hk h1 => hg k hk (hsub k h1)) hk (zfs_t hf c)
    · exact c
/-- the reference's way, between two points -/
def ocS (inv gv : Nat → Int32) (f : Nat → Bool) (t : Nat) (P N : Nat → Int32) (ct m : Nat) : Prop := ct = zcnt (zfs f t) m ∧ (∀ n, n < m → zfs f t n = true → P (zcnt (zfs f t) n) = nI n ∧ N (zcnt (zfs f t) n) = gv n) ∧ zall (roK inv gv f t) m = true
variable {P N : Nat → Int32} {ct m : Nat}
theorem ocS.z : ocS inv gv f t P N 0 0 := ⟨rfl, fun n hn => absurd hn (Nat.not_lt_zero n), rfl⟩
theorem ocS.t_le (h : ocS inv gv f t P N ct m) (hc : ct = t) : t ≤ zcnt f m := by
  have := h.1
  rw [zfs_cnt] at this
  omega
theorem ocS.t_lt (h : ocS inv gv f t P N ct m) (hc : ct ≠ t) : zcnt f m < t := by
  have := h.1
  rw [zfs_cnt] at this
  omega
theorem ocS.keep (h : ocS inv gv f t P N ct m) (hz : zfs f t m = false) (hr : roK inv gv f t m = true) : ocS inv gv f t P N ct (m + 1) := by
  obtain ⟨h1, h2, h3⟩ := h
  refine ⟨by rw [zcnt_skip hz]; exact h1, fun n hn hf => h2 n ?_ hf, ?_⟩
  · have : n ≠ m := fun e => by rw [e, hz] at hf; cases hf
    omega
  · show (zall (roK inv gv f t) m && roK inv gv f t m) = true
    rw [h3, hr]; rfl
theorem ocS.skip (h : ocS inv gv f t P N ct m) (hf : f m = false) : ocS inv gv f t P N ct (m + 1) :=
  h.keep (zfs_f (Or.inl hf)) (by unfold roK; rw [hf, Bool.not_false, Bool.true_or])
theorem ocS.agree (h : ocS inv gv f t P N ct m) (hc : ct = t) (ha : zth inv gv (nI (zsetN (zfs f t) 9)) (nI m) = gv m) : ocS inv gv f t P N ct (m + 1) :=
  h.keep (zfs_f (Or.inr (Nat.not_lt.mpr (h.t_le hc)))) (by unfold roK; rw [decide_eq_true ha, Bool.or_true, Bool.or_true])
theorem ocS.add (h : ocS inv gv f t P N ct m) (hf : f m = true) (hc : ct ≠ t) : ocS inv gv f t (upd P ct (nI m)) (upd N ct (gv m)) (ct + 1) (m + 1) := by
  have hlt := h.t_lt hc
  have hz := zfs_t hf hlt
  obtain ⟨h1, h2, h3⟩ := h
  refine ⟨by rw [zcnt_step hz, h1], fun n hn hfn => ?_, ?_⟩
  · by_cases e : n = m
    · subst e
      rw [← h1, pk_us, pk_us]
      exact ⟨rfl, rfl⟩
    · have : zcnt (zfs f t) n ≠ ct := fun q => e ((zcnt_inj (f := zfs f t) hfn hz).mp (q.trans h1))
      rw [pk_un this, pk_un this]
      exact h2 n (by omega) hfn
  · show (zall (roK inv gv f t) m && roK inv gv f t m) = true
    rw [h3]
    unfold roK
    rw [decide_eq_true hlt, Bool.true_or, Bool.or_true]
    rfl
theorem ocS.fail (h : ocS inv gv f t P N ct m) (hf : f m = true) (hc : ct = t) (hm : m < 9) (ha : ¬ zth inv gv (nI (zsetN (zfs f t) 9)) (nI m) = gv m) : zall (roK inv gv f t) 9 = false := by
  refine zall_no (i := m) ?_ 9 hm
  unfold roK
  rw [hf, decide_eq_false ha, decide_eq_false (Nat.not_lt.mpr (h.t_le hc))]
  rfl
theorem ocS.th (h : ocS inv gv f t P N ct m) (hm : m ≤ 9) (hi : zIv inv iv) {g : Nat → Nat} (hg : ∀ k, k < 9 → f k = true → gv k = nI (g k) ∧ g k < 97) (hc : ct = t) {x : Nat} (hx : x < 97) : zr97 (zmO inv P N (nI x) ct ct) = zth inv gv (nI (zsetN (zfs f t) 9)) (nI x) := by
  have hle := h.t_le hc
  have hl2 := (zset_N (zfs f t) 9 (by decide)).2
  have hb2 : ∀ k, k < 9 → zbt (nI (zsetN (zfs f t) 9)) k = zfs f t k := fun k hk => by rw [tb_zbt _ (by omega) k hk, zsN_at _ 9 (by decide) k hk, decide_eq_true hk, Bool.true_and]
  have hsub : ∀ k, zfs f t k = true → f k = true ∧ zcnt f k < t := fun k h => by unfold zfs at h; rw [Bool.and_eq_true, decide_eq_true_eq] at h; exact h
  have h9 : zcnt (zfs f t) 9 = ct := by
    have := zcnt_le (f := f) 9 hm
    rw [zfs_cnt]
    omega
  have key := zm_th (b := zfs f t) (gv := gv) (pt := P) (nb := N) (g := g) hi hb2 (fun k hk h1 => hg k hk (hsub k h1).1) hx (fun n hn h1 => h.2.1 n (by
    refine Nat.lt_of_not_le fun q => ?_
    have h3 := zcnt_le (f := f) n q
    have h4 := (hsub n h1).2
    omega) h1)
  rw [h9] at key
  exact key
end ZOC
/-- point 0 has a number of its own -/
def gvw (w : Int32) (h : Nat → Int32) : Nat → Int32
  | 0 => w
  | k + 1 => h k
def gpw (b : Bool) (F : Nat → Bool) : Nat → Bool
  | 0 => b
  | k + 1 => F k
theorem gpw_N (b : Bool) (F : Nat → Bool) : ∀ n, zsetN (gpw b F) (n + 1) = 2 * zsetN F n + (if b = true then 1 else 0)
  | 0 => by
    show 0 + (if b = true then 2 ^ 0 else 0) = 2 * 0 + (if b = true then 1 else 0)
    rfl
  | n + 1 => by
    have ih := gpw_N b F n
    show zsetN (gpw b F) (n + 1) + (if F n then 2 ^ (n + 1) else 0) = 2 * (zsetN F n + (if F n then 2 ^ n else 0)) + _
    rw [ih, Nat.pow_succ]
    by_cases hf : F n = true
    · rw [if_pos hf, if_pos hf]; omega
    · rw [if_neg hf, if_neg hf]
      omega
theorem roK_congr {inv inw gv gw : Nat → Int32} {f g : Nat → Bool} {t : Nat} (he : ∀ j, j < 97 → inv j = inw j) (hf : ∀ k, k < 9 → f k = g k) (hg : ∀ k, k < 9 → g k = true → gv k = gw k) : zall (roK inv gv f t) 9 = zall (roK inw gw g t) 9 := by
  have hfs : ∀ k, k < 9 → zfs f t k = zfs g t k := fun k hk => by
    unfold zfs
    rw [hf k hk, zcnt_congr (g := g) k (fun j hj => hf j (by omega))]
  have es : zsetN (zfs f t) 9 = zsetN (zfs g t) 9 := zsN_congr 9 hfs
  have hl2 := (zset_N (zfs g t) 9 (by decide)).2
  rw [Bool.eq_iff_iff, zall_iff, zall_iff]
  have key : ∀ k, k < 9 → roK inv gv f t k = roK inw gw g t k := fun k hk => by
    unfold roK
    rw [hf k hk, zcnt_congr (g := g) k (fun j hj => hf j (by omega)), es, zth_inv he]
    cases hgk : g k with
    | false => rw [Bool.not_false, Bool.true_or, Bool.true_or]
    | true =>
      rw [hg k hk hgk, show zth inw gv (nI (zsetN (zfs g t) 9)) (nI k) = zth inw gw (nI (zsetN (zfs g t) 9)) (nI k) from zthO_congr (fun j hj h1 => by
        rw [tb_zbt _ (by omega) j hj, zsN_at _ 9 (by decide) j hj, decide_eq_true hj, Bool.true_and] at h1
        unfold zfs at h1
        rw [Bool.and_eq_true] at h1
        exact hg j hj h1.1) 9 (Nat.le_refl 9)]
  exact ⟨fun h k hk => by rw [← key k hk]; exact h k hk, fun h k hk => by rw [key k hk]; exact h k hk⟩

/-- a secret's shares are of one curve, or it is no matter: class -/
def ocV (V : Nat → Nat → Int32) (si : Nat) : Bool := zall (roK (V 13) (gvs (V (300 + si))) (zgp (zcur (V (400 + si)) (V (200 + si) 3))) (V (200 + si) 0).toNatClampNeg) 9
def sSnd (V : Nat → Nat → Int32) (si : Nat) : Bool := decide (V (200 + si) 5 ≠ 0) || ocV V si
/-- its numbers are as they must be -/
def sdOk (V : Nat → Nat → Int32) (si : Nat) : Prop := ∀ k, k < 8 → V (400 + si) k ≠ -1 → ∃ s, s < 97 ∧ V (300 + si) k = nI s ∧ V (400 + si) k ≤ V (200 + si) 3
theorem sdOk.k {V V' : Nat → Nat → Int32} (h : zKo V V') {si : Nat} (hs : si < 6) (hd : sdOk V si) : sdOk V' si := by
  unfold sdOk
  rw [h.row (r := 200 + si) (by omega) (by omega), h.row (r := 300 + si) (by omega) (by omega), h.row (r := 400 + si) (by omega) (by omega)]
  exact hd
theorem sSnd_k {V V' : Nat → Nat → Int32} (h : zKo V V') {si : Nat} (hs : si < 6) : sSnd V' si = sSnd V si := by
  unfold sSnd ocV
  rw [h.row (r := 200 + si) (by omega) (by omega), h.row (r := 300 + si) (by omega) (by omega), h.row (r := 400 + si) (by omega) (by omega), h.row (r := 13) (by decide) (by decide)]
/-- points laid for the first i -/
def zGx (F : Nat → Bool) (h : Nat → Int32) (o : Int32) (V V' : Nat → Nat → Int32) (i : Nat) : Prop := V' 12 = z4 o (zset (zgp F) (i + 1)) 0 0 ∧ (∀ k, k < i → F k = true → V' 14 (k + 1) = h k) ∧ zKo V V'
section ZGX
variable {V V2 : Nat → Nat → Int32} {F : Nat → Bool} {h : Nat → Int32} {o : Int32} {i : Nat}
theorem zGx.z : zGx F h o V (rset V 12 (z4 o 0 0 0)) 0 := ⟨rset_s, fun k hk => absurd hk (Nat.not_lt_zero _), zKo.off (Or.inl rfl)⟩
theorem zGx.skip (hg : zGx F h o V V2 i) (hf : F i = false) : zGx F h o V V2 (i + 1) := by
  obtain ⟨h1, h2, h3⟩ := hg
  refine ⟨h1.trans ?_, fun k hk hk2 => ?_, h3⟩
  · rw [zset_f' (f := zgp F) (n := i + 1) hf]
  · by_cases e : k = i
    · subst e; rw [hf] at hk2; cases hk2
    · exact h2 k (by omega) hk2
theorem zGx.give (hg : zGx F h o V V2 i) (hf : F i = true) {x : Int32} (hx : x = h i) : zGx F h o V (rset (rset V2 14 (upd (V2 14) (i + 1) x)) 12 (z4 (V2 12 0) (V2 12 1 ||| (1 <<< (nI (i + 1) &&& 31))) (V2 12 2) (V2 12 3))) (i + 1) := by
  obtain ⟨h1, h2, h3⟩ := hg
  refine ⟨?_, fun k hk hk2 => ?_, (h3.tr (zKo.off (Or.inr rfl))).tr (zKo.off (Or.inl rfl))⟩
  · rw [rset_s, h1]
    show z4 o (zset (zgp F) (i + 1) ||| (1 <<< (nI (i + 1) &&& 31))) 0 0 = _
    rw [zset_t' (f := zgp F) (n := i + 1) hf]
  · rw [rset_n (by decide), rset_s]
    by_cases e : k = i
    · subst e; rw [pk_us]; exact hx
    · rw [pk_un (by omega)]
      exact h2 k (by omega) hk2
/-- laid for all: the class's answer -/
theorem zGx.oc {t : Nat} {iv : Nat → Nat} (hg : zGx F (fun k => zfm (h k)) (nI t) V V2 8) (ht : t < 2 ^ 20) (hi : zIv (V 13) iv) (hv : zVv iv) (hs : ∀ k, k < 8 → F k = true → ∃ s, s < 97 ∧ h k = nI s) : decide (zag (V2 13) (V2 14) (V2 12 1) (zoc (V2 12 1) (V2 12 0) 9) = V2 12 1) = zall (roK (V 13) (gvs h) (zgp F) t) 9 := by
  obtain ⟨g1, g2, g3⟩ := hg
  have f0 : V2 12 0 = nI t := by rw [g1]; rfl
  have f1 : V2 12 1 = nI (zsetN (zgp F) 9) := by
    rw [g1]
    exact (zset_N (zgp F) 9 (by decide)).1
  have ei : V2 13 = V 13 := g3.row (by decide) (by decide)
  have hgv : ∀ k, k < 9 → zgp F k = true → V2 14 k = gvs h k := fun k hk h1 => by
    match k, hk, h1 with
    | 0, _, h1 => cases h1
    | k + 1, hk, h1 =>
      obtain ⟨s, hs9, e⟩ := hs k (by omega) h1
      rw [g2 k (by omega) h1]
      show zfm (h k) = h k
      rw [e, zfm_s (by omega), Nat.mod_eq_of_lt hs9]
  have hgs : ∀ k, k < 9 → zgp F k = true → V2 14 k = nI (V2 14 k).toNatClampNeg ∧ (V2 14 k).toNatClampNeg < 97 := fun k hk h1 => by
    rw [hgv k hk h1]
    match k, hk, h1 with
    | 0, _, h1 => cases h1
    | k + 1, hk, h1 =>
      obtain ⟨s, hs9, e⟩ := hs k (by omega) h1
      show h k = nI (h k).toNatClampNeg ∧ (h k).toNatClampNeg < 97
      rw [e, nI_clamp (by omega)]
      exact ⟨rfl, hs9⟩
  rw [f0, ei, oc_all hi hv f1 ht hgs]
  exact roK_congr (fun _ _ => rfl) (fun _ _ => rfl) hgv
end ZGX

theorem sSnd_0 {x y : Int32} {o : Bool} (c : ¬ x = 0) (e : x = y) : some (Value.int 1) = some (Value.int (zb (decide (y ≠ 0) || o))) := by
  subst e
  rw [decide_eq_true (p := x ≠ 0) c, Bool.true_or]
  rfl
theorem sSnd_1 {x y : Int32} {o q : Bool} (c : x = 0) (c2 : ¬ zb q = 0) (e : x = y) (e2 : q = o) : some (Value.int 1) = some (Value.int (zb (decide (y ≠ 0) || o))) := by
  subst e e2
  rw [(zb_n0 _).mp c2, Bool.or_true]
  rfl
theorem sSnd_2 {x y : Int32} {o q : Bool} (c : x = 0) (c2 : zb q = 0) (e : x = y) (e2 : q = o) : some (Value.int 0) = some (Value.int (zb (decide (y ≠ 0) || o))) := by
  subst e e2
  rw [(zb_0 _).mp c2, Bool.or_false, decide_eq_false (p := x ≠ 0) (fun z => z c)]
  rfl

theorem zall_s {f : Nat → Bool} {n : Nat} (h : zall f n = true) (h2 : f n = true) : zall f (n + 1) = true := by
  show (zall f n && f n) = true
  rw [h, h2]; rfl

set_option maxHeartbeats 4000000 in
set_option maxRecDepth 100000 in
theorem m_Tb_isSecretSoundE {g0 : State} {d : zD} {l : Launch} {a0 : Array Value} (hs0 : zS0 d a0 g0) (hst : l.stackTraces = false) {G : zG} {A : Nat → Nat} {D : Nat → UInt64} {V : Nat → Nat → Int32} {nk ns : Nat} (hT : zT d A D V nk ns G) {si : Nat} (hsi : si < ns) (hsd : sdOk V si) {iv : Nat → Nat} (hiv : zIv (V 13) iv) (hvv : zVv iv) : zMet g0 d l y_Tb_isSecretSound c_Tb_isSecretSound 3 ((Option.some Jvm.ClassFile.FieldType.boolean)) 5 0 0 [.ref (A 0), .ref (A (200 + si))] (G) (zTu d A nk ns V G (fun r => r = some (.int (zb (sSnd V si))))) (zNo) := by
  have hG_Tb := hT.tb
  have hnk : nk ≤ 8 := hT.2.1
  have hns : ns ≤ 6 := hT.2.2.1
  obtain ⟨t, ht1, ht4, ht⟩ := hT.tn hsi
  refine z_entry hs0 hst (by decide) (Nat.le_of_ble_eq_true rfl) (fun p e s m args below meth c => ?_)
  refine z_aload_n 0 d_Tb_isSecretSound_0 rfl rfl ?_
  refine z_get zc_Tb 4 (by decide) qF_Tb_36 hT.tb rfl d_Tb_isSecretSound_1 ?_
  refine z_aload_n 1 d_Tb_isSecretSound_4 rfl rfl ?_
  refine z_get zc_Se 0 (by decide) qF_Tb_147 (hT.se hsi).1 rfl d_Tb_isSecretSound_5 ?_
  refine z_callVp0 (m_Gr_begin hs0 hst hT.gA _) ym_Gr_begin qM_Tb_351 qI_Gr_begin qV_Gr_Gr_begin zc_Gr hT.gr d_Tb_isSecretSound_8 rfl (Nat.le_of_ble_eq_true rfl) ⟨Nat.zero_le _, Nat.zero_le _⟩ ⟨Nat.le_of_ble_eq_true rfl, Nat.le_of_ble_eq_true rfl⟩ (fun r_8 G_8 hp_8 => ?_)
  obtain ⟨hr_8, hg_8⟩ := hp_8
  obtain rfl : r_8 = none := hr_8
  obtain ⟨hT1, hF1⟩ := hT.putgE (V (200 + si) 0) 0 0 (p := 0) ⟨0, by decide, nI_0.symm⟩
  rw [← hg_8] at hT1 hF1
  rw [ht] at hT1
  refine z_iconst (v := (nI 0)) d_Tb_isSecretSound_11 (by decide) ?_
  refine z_istore_n (L' := [(2, _), (0, _), (1, _)]) d_Tb_isSecretSound_12 rfl (by decide) rfl ?_
  have key_13 : ∀ (n : Nat) (i : Nat) (G2 : zG) (V2 : Nat → Nat → Int32), 8 - i < n → (i ≤ 8) → (zT d A D V2 nk ns G2) → (zGx (zcur (V (400 + si)) (V (200 + si) 3)) (fun k => zfm (V (300 + si) k)) (nI t) V V2 i) → (tFr A nk ns G G2) → Z g0 d y_Tb_isSecretSound c_Tb_isSecretSound 3 ((Option.some Jvm.ClassFile.FieldType.boolean)) [] p l e (zR 5 0 0) s m args below meth c (vx_MQ below (zQc g0 d (zTu d A nk ns V G (fun r => r = some (.int (zb (sSnd V si)))))) (zXc g0 d (zNo)) args s 0 0 (zA g0)) 0 0 (G2) [(2, .int (nI i)), (0, .ref (A 0)), (1, .ref (A (200 + si)))] [] 13 := by
    intro n
    induction n with
    | zero => intro i G2 V2 h0; exact absurd h0 (Nat.not_lt_zero _)
    | succ n ih_13 =>
      intro i G2 V2 hm_13 hi hT2 hK2 hF2
      refine z_iload_n 0 d_Tb_isSecretSound_13 rfl rfl ?_
      refine z_bipush (v := (nI 8)) d_Tb_isSecretSound_14 (by decide) ?_
      refine z_icmp_ge 82 d_Tb_isSecretSound_16 (by decide) (fun c_16 => ?_) (fun c_16 => ?_)
      · skip
        obtain rfl : i = 8 := by
          have := (nI_leI (a := 8) (b := i) (by decide) (by omega)).mp c_16
          omega
        have hoc := zGx.oc (h := V (300 + si)) hK2 (by omega) hiv hvv (fun k hk hf => by
          unfold zcur at hf
          rw [Bool.and_eq_true, decide_eq_true_eq] at hf
          obtain ⟨s, hs, e, -⟩ := hsd k hk hf.1
          exact ⟨s, hs, e⟩)
        have hoV : zall (roK (V 13) (gvs (V (300 + si))) (zgp (zcur (V (400 + si)) (V (200 + si) 3))) t) 9 = ocV V si := by
          unfold ocV
          rw [ht, nI_clamp (by omega)]
        have e86 : V2 (200 + si) 5 = V (200 + si) 5 := by rw [hK2.2.2.row (r := 200 + si) (by omega) (by omega)]
        refine z_aload_n 2 d_Tb_isSecretSound_82 rfl rfl ?_
        refine z_get zc_Se 7 (by decide) qF_Tb_206 (hT2.se hsi).1 rfl d_Tb_isSecretSound_83 ?_
        refine z_if_ne 99 d_Tb_isSecretSound_86 (by decide) (fun c_86 => ?_) (fun c_86 => ?_)
        · skip
          refine z_iconst (v := 1) d_Tb_isSecretSound_99 (by decide) ?_
          refine z_goto 104 d_Tb_isSecretSound_100 (by decide) ?_
          exact z_zret rfl (by first | rfl | exact zb_nar _) (⟨by unfold sSnd; first | exact sSnd_0 c_86 e86 | exact sSnd_1 c_86 c_96 e86 (hoc.trans hoV) | exact sSnd_2 c_86 c_96 e86 (hoc.trans hoV), D, V2, hT2, hK2.2.2, hF2⟩) (by first | decide | omega) (by first | decide | omega) d_Tb_isSecretSound_104
        · skip
          refine z_aload_n 1 d_Tb_isSecretSound_89 rfl rfl ?_
          refine z_get zc_Tb 4 (by decide) qF_Tb_36 hT2.tb rfl d_Tb_isSecretSound_90 ?_
          refine z_callV0 (m_Gr_isOnOneCurve hs0 hst hT2.gA) ym_Gr_isOnOneCurve qM_Tb_291 qI_Gr_isOnOneCurve qV_Gr_Gr_isOnOneCurve zc_Gr hT2.gr d_Tb_isSecretSound_93 rfl (Nat.le_of_ble_eq_true rfl) ⟨Nat.zero_le _, Nat.zero_le _⟩ ⟨Nat.le_of_ble_eq_true rfl, Nat.le_of_ble_eq_true rfl⟩ ?_
          refine z_if_eq 103 d_Tb_isSecretSound_96 (by decide) (fun c_96 => ?_) (fun c_96 => ?_)
          · skip
            refine z_iconst (v := 0) d_Tb_isSecretSound_103 (by decide) ?_
            exact z_zret rfl (by first | rfl | exact zb_nar _) (⟨by unfold sSnd; first | exact sSnd_0 c_86 e86 | exact sSnd_1 c_86 c_96 e86 (hoc.trans hoV) | exact sSnd_2 c_86 c_96 e86 (hoc.trans hoV), D, V2, hT2, hK2.2.2, hF2⟩) (by first | decide | omega) (by first | decide | omega) d_Tb_isSecretSound_104
          · skip
            refine z_iconst (v := 1) d_Tb_isSecretSound_99 (by decide) ?_
            refine z_goto 104 d_Tb_isSecretSound_100 (by decide) ?_
            exact z_zret rfl (by first | rfl | exact zb_nar _) (⟨by unfold sSnd; first | exact sSnd_0 c_86 e86 | exact sSnd_1 c_86 c_96 e86 (hoc.trans hoV) | exact sSnd_2 c_86 c_96 e86 (hoc.trans hoV), D, V2, hT2, hK2.2.2, hF2⟩) (by first | decide | omega) (by first | decide | omega) d_Tb_isSecretSound_104
      · skip
        have hi6 : i < 8 := Nat.lt_of_not_le fun q => c_16 (nI_le (a := 8) (b := i) q (by omega))
        refine z_aload_n 2 d_Tb_isSecretSound_19 rfl rfl ?_
        refine z_iload_n 0 d_Tb_isSecretSound_20 rfl rfl ?_
        refine z_callV0 (m_Se_has hs0 hst (hT2.se hsi) hi6) ym_Se_has qM_Tb_270 qI_Se_has qV_Se_Se_has zc_Se (hT2.se hsi).1 d_Tb_isSecretSound_21 rfl (Nat.le_of_ble_eq_true rfl) ⟨Nat.zero_le _, Nat.zero_le _⟩ ⟨Nat.le_of_ble_eq_true rfl, Nat.le_of_ble_eq_true rfl⟩ ?_
        refine z_if_eq 52 d_Tb_isSecretSound_24 (by decide) (fun c_24 => ?_) (fun c_24 => ?_)
        · skip
          refine z_aload_n 2 d_Tb_isSecretSound_52 rfl rfl ?_
          refine z_iload_n 0 d_Tb_isSecretSound_53 rfl rfl ?_
          refine z_callV0 (m_Se_isCurrent hs0 hst (hT2.se hsi) hi6) ym_Se_isCurrent qM_Tb_179 qI_Se_isCurrent qV_Se_Se_isCurrent zc_Se (hT2.se hsi).1 d_Tb_isSecretSound_54 rfl (Nat.le_of_ble_eq_true rfl) ⟨Nat.zero_le _, Nat.zero_le _⟩ ⟨Nat.le_of_ble_eq_true rfl, Nat.le_of_ble_eq_true rfl⟩ ?_
          refine z_if_eq 76 d_Tb_isSecretSound_57 (by decide) (fun c_57 => ?_) (fun c_57 => ?_)
          · skip
            have hf2 : (zcur (V (400 + si)) (V (200 + si) 3)) i = false := by rw [← hK2.2.2.row (r := 400 + si) (by omega) (by omega), ← hK2.2.2.row (r := 200 + si) (by omega) (by omega)]; exact (zb_0 _).mp c_57
            refine z_iinc (v := nI (i + 1)) (L' := [(2, _), (0, _), (1, _)]) 0 d_Tb_isSecretSound_76 rfl (nI_1 i) (by decide) rfl ?_
            refine z_goto 13 d_Tb_isSecretSound_79 (by decide) ?_
            first
              | exact ih_13 (i + 1) _ _ (by omega) (by omega) hT3 (hK2.give hf3 (by rw [hK2.2.2.row (r := 300 + si) (by omega) (by omega)])) (hF2.tr hF3)
              | exact ih_13 (i + 1) _ _ (by omega) (by omega) hT2 (hK2.skip hf2) hF2
          · skip
            have hf3 : (zcur (V (400 + si)) (V (200 + si) 3)) i = true := by rw [← hK2.2.2.row (r := 400 + si) (by omega) (by omega), ← hK2.2.2.row (r := 200 + si) (by omega) (by omega)]; exact (zb_n0 _).mp c_57
            refine z_aload_n 1 d_Tb_isSecretSound_60 rfl rfl ?_
            refine z_get zc_Tb 4 (by decide) qF_Tb_36 hT2.tb rfl d_Tb_isSecretSound_61 ?_
            refine z_iload_n 0 d_Tb_isSecretSound_64 rfl rfl ?_
            refine z_callS0 (m_Tb_pointOf hs0 hst (nI i)) ym_Tb_pointOf qM_Tb_128 qS_Tb_pointOf d_Tb_isSecretSound_65 rfl (Nat.le_of_ble_eq_true rfl) ⟨Nat.zero_le _, Nat.zero_le _⟩ ⟨Nat.le_of_ble_eq_true rfl, Nat.le_of_ble_eq_true rfl⟩ ?_
            refine z_topv (nI_1 i) ?_
            refine z_aload_n 2 d_Tb_isSecretSound_68 rfl rfl ?_
            refine z_iload_n 0 d_Tb_isSecretSound_69 rfl rfl ?_
            refine z_callV0 (m_Se_shareOf hs0 hst (hT2.se hsi) hi6) ym_Se_shareOf qM_Tb_155 qI_Se_shareOf qV_Se_Se_shareOf zc_Se (hT2.se hsi).1 d_Tb_isSecretSound_70 rfl (Nat.le_of_ble_eq_true rfl) ⟨Nat.zero_le _, Nat.zero_le _⟩ ⟨Nat.le_of_ble_eq_true rfl, Nat.le_of_ble_eq_true rfl⟩ ?_
            refine z_callVp0 (m_Gr_give hs0 hst hT2.gA (show i + 1 < 9 by omega) _) ym_Gr_give qM_Tb_288 qI_Gr_give qV_Gr_Gr_give zc_Gr hT2.gr d_Tb_isSecretSound_73 rfl (Nat.le_of_ble_eq_true rfl) ⟨Nat.zero_le _, Nat.zero_le _⟩ ⟨Nat.le_of_ble_eq_true rfl, Nat.le_of_ble_eq_true rfl⟩ (fun r_73 G_73 hp_73 => ?_)
            obtain ⟨hr_73, hg_73⟩ := hp_73
            obtain rfl : r_73 = none := hr_73
            obtain ⟨hT3, hF3⟩ := hT2.giveE (k := i + 1) (by omega) (V2 (300 + si) i)
            rw [← hg_73] at hT3 hF3
            refine z_iinc (v := nI (i + 1)) (L' := [(2, _), (0, _), (1, _)]) 0 d_Tb_isSecretSound_76 rfl (nI_1 i) (by decide) rfl ?_
            refine z_goto 13 d_Tb_isSecretSound_79 (by decide) ?_
            first
              | exact ih_13 (i + 1) _ _ (by omega) (by omega) hT3 (hK2.give hf3 (by rw [hK2.2.2.row (r := 300 + si) (by omega) (by omega)])) (hF2.tr hF3)
              | exact ih_13 (i + 1) _ _ (by omega) (by omega) hT2 (hK2.skip hf2) hF2
        · skip
          have hq24 := of_decide_eq_true ((zb_n0 _).mp c_24)
          rw [hK2.2.2.row (r := 400 + si) (by omega) (by omega)] at hq24
          obtain ⟨s9, hs97, es9, el9⟩ := hsd i (by omega) hq24
          refine z_aload_n 2 d_Tb_isSecretSound_27 rfl rfl ?_
          refine z_iload_n 0 d_Tb_isSecretSound_28 rfl rfl ?_
          refine z_callV0 (m_Se_shareOf hs0 hst (hT2.se hsi) hi6) ym_Se_shareOf qM_Tb_155 qI_Se_shareOf qV_Se_Se_shareOf zc_Se (hT2.se hsi).1 d_Tb_isSecretSound_29 rfl (Nat.le_of_ble_eq_true rfl) ⟨Nat.zero_le _, Nat.zero_le _⟩ ⟨Nat.le_of_ble_eq_true rfl, Nat.le_of_ble_eq_true rfl⟩ ?_
          refine z_callS0 (m_Tb_isNumber hs0 hst _) ym_Tb_isNumber qM_Tb_90 qS_Tb_isNumber d_Tb_isSecretSound_32 rfl (Nat.le_of_ble_eq_true rfl) ⟨Nat.zero_le _, Nat.zero_le _⟩ ⟨Nat.le_of_ble_eq_true rfl, Nat.le_of_ble_eq_true rfl⟩ ?_
          refine z_if_eq 50 d_Tb_isSecretSound_35 (by decide) (fun c_35 => absurd ((zb_0 _).mp c_35) (by rw [hK2.2.2.row (r := 300 + si) (by omega) (by omega), es9, show zin (nI s9) 0 96 = true from zin_ok (n := 96) (by omega) (by decide)]; decide)) (fun c_35 => ?_)
          refine z_aload_n 2 d_Tb_isSecretSound_38 rfl rfl ?_
          refine z_iload_n 0 d_Tb_isSecretSound_39 rfl rfl ?_
          refine z_callV0 (m_Se_epochOf hs0 hst (hT2.se hsi) hi6) ym_Se_epochOf qM_Tb_395 qI_Se_epochOf qV_Se_Se_epochOf zc_Se (hT2.se hsi).1 d_Tb_isSecretSound_40 rfl (Nat.le_of_ble_eq_true rfl) ⟨Nat.zero_le _, Nat.zero_le _⟩ ⟨Nat.le_of_ble_eq_true rfl, Nat.le_of_ble_eq_true rfl⟩ ?_
          refine z_aload_n 2 d_Tb_isSecretSound_43 rfl rfl ?_
          refine z_get zc_Se 5 (by decide) qF_Tb_152 (hT2.se hsi).1 rfl d_Tb_isSecretSound_44 ?_
          refine z_icmp_le 52 d_Tb_isSecretSound_47 (by decide) (fun c_47 => ?_) (fun c_47 => absurd (show V2 (400 + si) i ≤ V2 (200 + si) 3 from by rw [hK2.2.2.row (r := 400 + si) (by omega) (by omega), hK2.2.2.row (r := 200 + si) (by omega) (by omega)]; exact el9) c_47)
          refine z_aload_n 2 d_Tb_isSecretSound_52 rfl rfl ?_
          refine z_iload_n 0 d_Tb_isSecretSound_53 rfl rfl ?_
          refine z_callV0 (m_Se_isCurrent hs0 hst (hT2.se hsi) hi6) ym_Se_isCurrent qM_Tb_179 qI_Se_isCurrent qV_Se_Se_isCurrent zc_Se (hT2.se hsi).1 d_Tb_isSecretSound_54 rfl (Nat.le_of_ble_eq_true rfl) ⟨Nat.zero_le _, Nat.zero_le _⟩ ⟨Nat.le_of_ble_eq_true rfl, Nat.le_of_ble_eq_true rfl⟩ ?_
          refine z_if_eq 76 d_Tb_isSecretSound_57 (by decide) (fun c_57 => ?_) (fun c_57 => ?_)
          · skip
            have hf2 : (zcur (V (400 + si)) (V (200 + si) 3)) i = false := by rw [← hK2.2.2.row (r := 400 + si) (by omega) (by omega), ← hK2.2.2.row (r := 200 + si) (by omega) (by omega)]; exact (zb_0 _).mp c_57
            refine z_iinc (v := nI (i + 1)) (L' := [(2, _), (0, _), (1, _)]) 0 d_Tb_isSecretSound_76 rfl (nI_1 i) (by decide) rfl ?_
            refine z_goto 13 d_Tb_isSecretSound_79 (by decide) ?_
            first
              | exact ih_13 (i + 1) _ _ (by omega) (by omega) hT3 (hK2.give hf3 (by rw [hK2.2.2.row (r := 300 + si) (by omega) (by omega)])) (hF2.tr hF3)
              | exact ih_13 (i + 1) _ _ (by omega) (by omega) hT2 (hK2.skip hf2) hF2
          · skip
            have hf3 : (zcur (V (400 + si)) (V (200 + si) 3)) i = true := by rw [← hK2.2.2.row (r := 400 + si) (by omega) (by omega), ← hK2.2.2.row (r := 200 + si) (by omega) (by omega)]; exact (zb_n0 _).mp c_57
            refine z_aload_n 1 d_Tb_isSecretSound_60 rfl rfl ?_
            refine z_get zc_Tb 4 (by decide) qF_Tb_36 hT2.tb rfl d_Tb_isSecretSound_61 ?_
            refine z_iload_n 0 d_Tb_isSecretSound_64 rfl rfl ?_
            refine z_callS0 (m_Tb_pointOf hs0 hst (nI i)) ym_Tb_pointOf qM_Tb_128 qS_Tb_pointOf d_Tb_isSecretSound_65 rfl (Nat.le_of_ble_eq_true rfl) ⟨Nat.zero_le _, Nat.zero_le _⟩ ⟨Nat.le_of_ble_eq_true rfl, Nat.le_of_ble_eq_true rfl⟩ ?_
            refine z_topv (nI_1 i) ?_
            refine z_aload_n 2 d_Tb_isSecretSound_68 rfl rfl ?_
            refine z_iload_n 0 d_Tb_isSecretSound_69 rfl rfl ?_
            refine z_callV0 (m_Se_shareOf hs0 hst (hT2.se hsi) hi6) ym_Se_shareOf qM_Tb_155 qI_Se_shareOf qV_Se_Se_shareOf zc_Se (hT2.se hsi).1 d_Tb_isSecretSound_70 rfl (Nat.le_of_ble_eq_true rfl) ⟨Nat.zero_le _, Nat.zero_le _⟩ ⟨Nat.le_of_ble_eq_true rfl, Nat.le_of_ble_eq_true rfl⟩ ?_
            refine z_callVp0 (m_Gr_give hs0 hst hT2.gA (show i + 1 < 9 by omega) _) ym_Gr_give qM_Tb_288 qI_Gr_give qV_Gr_Gr_give zc_Gr hT2.gr d_Tb_isSecretSound_73 rfl (Nat.le_of_ble_eq_true rfl) ⟨Nat.zero_le _, Nat.zero_le _⟩ ⟨Nat.le_of_ble_eq_true rfl, Nat.le_of_ble_eq_true rfl⟩ (fun r_73 G_73 hp_73 => ?_)
            obtain ⟨hr_73, hg_73⟩ := hp_73
            obtain rfl : r_73 = none := hr_73
            obtain ⟨hT3, hF3⟩ := hT2.giveE (k := i + 1) (by omega) (V2 (300 + si) i)
            rw [← hg_73] at hT3 hF3
            refine z_iinc (v := nI (i + 1)) (L' := [(2, _), (0, _), (1, _)]) 0 d_Tb_isSecretSound_76 rfl (nI_1 i) (by decide) rfl ?_
            refine z_goto 13 d_Tb_isSecretSound_79 (by decide) ?_
            first
              | exact ih_13 (i + 1) _ _ (by omega) (by omega) hT3 (hK2.give hf3 (by rw [hK2.2.2.row (r := 300 + si) (by omega) (by omega)])) (hF2.tr hF3)
              | exact ih_13 (i + 1) _ _ (by omega) (by omega) hT2 (hK2.skip hf2) hF2
  exact key_13 9 0 _ _ (by omega) (by omega) hT1 zGx.z hF1
set_option maxHeartbeats 4000000 in
set_option maxRecDepth 100000 in
theorem m_Tb_isSoundE {g0 : State} {d : zD} {l : Launch} {a0 : Array Value} (hs0 : zS0 d a0 g0) (hst : l.stackTraces = false) {G : zG} {A : Nat → Nat} {D : Nat → UInt64} {V : Nat → Nat → Int32} {nk ns : Nat} (hT : zT d A D V nk ns G) (hsd : ∀ si, si < ns → sdOk V si) {iv : Nat → Nat} (hiv : zIv (V 13) iv) (hvv : zVv iv) (hli : ∀ k, k < nk → ∃ l, l < 97 ∧ V (100 + k) 4 = nI l) : zMet g0 d l y_Tb_isSound c_Tb_isSound 2 ((Option.some Jvm.ClassFile.FieldType.boolean)) 11 0 0 [.ref (A 0)] (G) (zTu d A nk ns V G (fun r => ∃ c9, c9 ≤ 64 ∧ V 5 0 = nI c9 ∧ r = some (.int (zb (zall (sSnd V) ns && zall (zwhf (V 6) (V 7) (V 8) (V 9)) c9))))) (zNo) := by
  have hG_Tb := hT.tb
  have hnk : nk ≤ 8 := hT.2.1
  have hns : ns ≤ 6 := hT.2.2.1
  refine z_entry hs0 hst (by decide) (Nat.le_of_ble_eq_true rfl) (fun p e s m args below meth c => ?_)
  refine z_iconst (v := (nI 0)) d_Tb_isSound_0 (by decide) ?_
  refine z_istore_n (L' := [(1, _), (0, _)]) d_Tb_isSound_1 rfl (by decide) rfl ?_
  have key_2 : ∀ (n : Nat) (i : Nat), nk - i < n → (i ≤ nk) → Z g0 d y_Tb_isSound c_Tb_isSound 2 ((Option.some Jvm.ClassFile.FieldType.boolean)) [] p l e (zR 11 0 0) s m args below meth c (vx_MQ below (zQc g0 d (zTu d A nk ns V G (fun r => ∃ c9, c9 ≤ 64 ∧ V 5 0 = nI c9 ∧ r = some (.int (zb (zall (sSnd V) ns && zall (zwhf (V 6) (V 7) (V 8) (V 9)) c9)))))) (zXc g0 d (zNo)) args s 0 0 (zA g0)) 0 0 (G) [(1, .int (nI i)), (0, .ref (A 0))] [] 2 := by
    intro n
    induction n with
    | zero => intro i h0; exact absurd h0 (Nat.not_lt_zero _)
    | succ n ih_2 =>
      intro i hm_2 hi
      refine z_iload_n 0 d_Tb_isSound_2 rfl rfl ?_
      refine z_aload_n 1 d_Tb_isSound_3 rfl rfl ?_
      refine z_get zc_Tb 0 (by decide) qF_Tb_10 (by first | exact hT2.tb | exact hT.tb) rfl d_Tb_isSound_4 ?_
      refine z_callV0 (m_AL_size hs0 hst hT.kl) ym_AL_size qM_Tb_68 qI_AL_size qV_AL_AL_size zc_AL hT.kl d_Tb_isSound_7 rfl (Nat.le_of_ble_eq_true rfl) ⟨Nat.zero_le _, Nat.zero_le _⟩ ⟨Nat.le_of_ble_eq_true rfl, Nat.le_of_ble_eq_true rfl⟩ ?_
      refine z_icmp_ge 41 d_Tb_isSound_10 (by decide) (fun c_10 => ?_) (fun c_10 => ?_)
      · skip
        refine z_iconst (v := (nI 0)) d_Tb_isSound_41 (by decide) ?_
        refine z_istore_n (L' := [(1, _), (0, _)]) d_Tb_isSound_42 rfl (by decide) rfl ?_
        have key_43 : ∀ (n : Nat) (i : Nat) (G2 : zG) (D2 : Nat → UInt64) (V2 : Nat → Nat → Int32), ns - i < n → (i ≤ ns) → (zT d A D2 V2 nk ns G2) → (zKo V V2) → (tFr A nk ns G G2) → (zall (sSnd V) i = true) → Z g0 d y_Tb_isSound c_Tb_isSound 2 ((Option.some Jvm.ClassFile.FieldType.boolean)) [] p l e (zR 11 0 0) s m args below meth c (vx_MQ below (zQc g0 d (zTu d A nk ns V G (fun r => ∃ c9, c9 ≤ 64 ∧ V 5 0 = nI c9 ∧ r = some (.int (zb (zall (sSnd V) ns && zall (zwhf (V 6) (V 7) (V 8) (V 9)) c9)))))) (zXc g0 d (zNo)) args s 0 0 (zA g0)) 0 0 (G2) [(1, .int (nI i)), (0, .ref (A 0))] [] 43 := by
          intro n
          induction n with
          | zero => intro i G2 D2 V2 h0; exact absurd h0 (Nat.not_lt_zero _)
          | succ n ih_43 =>
            intro i G2 D2 V2 hm_43 hi hT2 hK2 hF2 hall
            refine z_iload_n 0 d_Tb_isSound_43 rfl rfl ?_
            refine z_aload_n 1 d_Tb_isSound_44 rfl rfl ?_
            refine z_get zc_Tb 1 (by decide) qF_Tb_16 (by first | exact hT2.tb | exact hT.tb) rfl d_Tb_isSound_45 ?_
            refine z_callV0 (m_AL_size hs0 hst hT2.sl) ym_AL_size qM_Tb_68 qI_AL_size qV_AL_AL_size zc_AL hT2.sl d_Tb_isSound_48 rfl (Nat.le_of_ble_eq_true rfl) ⟨Nat.zero_le _, Nat.zero_le _⟩ ⟨Nat.le_of_ble_eq_true rfl, Nat.le_of_ble_eq_true rfl⟩ ?_
            refine z_icmp_ge 80 d_Tb_isSound_51 (by decide) (fun c_51 => ?_) (fun c_51 => ?_)
            · skip
              obtain rfl : ns = i := by
                have := (nI_leI (a := ns) (b := i) (by omega) (by omega)).mp c_51
                omega
              obtain ⟨c9, hc9, ec9, hR9⟩ := hT2.rN
              refine z_aload_n 1 d_Tb_isSound_80 rfl rfl ?_
              refine z_get zc_Tb 2 (by decide) qF_Tb_22 (by first | exact hT2.tb | exact hT.tb) rfl d_Tb_isSound_81 ?_
              refine z_callV0 (m_Re_isWhole hs0 hst hR9 hc9) ym_Re_isWhole qM_Tb_311 qI_Re_isWhole qV_Re_Re_isWhole zc_Re hT2.re d_Tb_isSound_84 rfl (Nat.le_of_ble_eq_true rfl) ⟨Nat.zero_le _, Nat.zero_le _⟩ ⟨Nat.le_of_ble_eq_true rfl, Nat.le_of_ble_eq_true rfl⟩ ?_
              exact z_zret rfl (by first | rfl | exact zb_nar _) (⟨⟨c9, hc9, by rw [← hK2.row (r := 5) (by decide) (by decide)]; exact ec9, by rw [hall, Bool.true_and, hK2.row (r := 6) (by decide) (by decide), hK2.row (r := 7) (by decide) (by decide), hK2.row (r := 8) (by decide) (by decide), hK2.row (r := 9) (by decide) (by decide)]⟩, D2, V2, hT2, hK2, hF2⟩) (by first | decide | omega) (by first | decide | omega) d_Tb_isSound_87
            · skip
              have hi6 : i < ns := Nat.lt_of_not_le fun q => c_51 (nI_le q (by omega))
              refine z_aload_n 1 d_Tb_isSound_54 rfl rfl ?_
              refine z_aload_n 1 d_Tb_isSound_55 rfl rfl ?_
              refine z_get zc_Tb 1 (by decide) qF_Tb_16 (by first | exact hT2.tb | exact hT.tb) rfl d_Tb_isSound_56 ?_
              refine z_iload_n 0 d_Tb_isSound_59 rfl rfl ?_
              refine z_callV0 (m_AL_get hs0 hst (hT2.sA hi6) hi6 (if_pos hi6)) ym_AL_get qM_Tb_166 qI_AL_get qV_AL_AL_get zc_AL (hT2.sA hi6).1 d_Tb_isSound_60 rfl (Nat.le_of_ble_eq_true rfl) ⟨Nat.zero_le _, Nat.zero_le _⟩ ⟨Nat.le_of_ble_eq_true rfl, Nat.le_of_ble_eq_true rfl⟩ ?_
              refine z_castS zc_Se qK_Tb_115 (hT2.se hi6).1 d_Tb_isSound_63 ?_
              refine z_callVp0 ((m_Tb_isSecretSoundE hs0 hst hT2 hi6 (sdOk.k hK2 (by omega) (hsd i hi6)) (by rw [hK2.row (r := 13) (by decide) (by decide)]; exact hiv) hvv)) ym_Tb_isSecretSound qM_Tb_307 qI_Tb_isSecretSound qV_Tb_Tb_isSecretSound zc_Tb hT2.tb d_Tb_isSound_66 rfl (Nat.le_of_ble_eq_true rfl) ⟨Nat.zero_le _, Nat.zero_le _⟩ ⟨Nat.le_of_ble_eq_true rfl, Nat.le_of_ble_eq_true rfl⟩ (fun r_66 G_66 hp_66 => ?_)
              obtain ⟨hr_66, D3, V3, hT3, hK3, hF3⟩ := hp_66
              obtain rfl : r_66 = _ := hr_66
              refine z_if_ne 74 d_Tb_isSound_69 (by decide) (fun c_69 => ?_) (fun c_69 => ?_)
              · skip
                refine z_iinc (v := nI (i + 1)) (L' := [(1, _), (0, _)]) 0 d_Tb_isSound_74 rfl (nI_1 i) (by decide) rfl ?_
                refine z_goto 43 d_Tb_isSound_77 (by decide) ?_
                exact ih_43 (i + 1) _ _ _ (by omega) (by omega) hT3 (hK2.tr hK3) (hF2.tr hF3) (zall_s hall ((sSnd_k hK2 (by omega)).symm.trans ((zb_n0 _).mp c_69)))
              · skip
                refine z_iconst (v := 0) d_Tb_isSound_72 (by decide) ?_
                exact z_zret rfl (by first | rfl | exact zb_nar _) (⟨by obtain ⟨c9, hc9, ec9, -⟩ := hT2.rN; exact ⟨c9, hc9, by rw [← hK2.row (r := 5) (by decide) (by decide)]; exact ec9, by rw [zall_no (f := sSnd V) (i := i) ((sSnd_k hK2 (by omega)).symm.trans ((zb_0 _).mp c_69)) ns hi6, Bool.false_and]; rfl⟩, D3, V3, hT3, hK2.tr hK3, hF2.tr hF3⟩) (by first | decide | omega) (by first | decide | omega) d_Tb_isSound_73
        exact key_43 (ns + 1) 0 _ _ _ (by omega) (by omega) hT zKo.rf zFr.rf rfl
      · skip
        have hi6 : i < nk := Nat.lt_of_not_le fun q => c_10 (nI_le q (by omega))
        refine z_aload_n 1 d_Tb_isSound_13 rfl rfl ?_
        refine z_get zc_Tb 0 (by decide) qF_Tb_10 (by first | exact hT2.tb | exact hT.tb) rfl d_Tb_isSound_14 ?_
        refine z_iload_n 0 d_Tb_isSound_17 rfl rfl ?_
        refine z_callV0 (m_AL_get hs0 hst (hT.kA hi6) hi6 (if_pos hi6)) ym_AL_get qM_Tb_166 qI_AL_get qV_AL_AL_get zc_AL (hT.kA hi6).1 d_Tb_isSound_18 rfl (Nat.le_of_ble_eq_true rfl) ⟨Nat.zero_le _, Nat.zero_le _⟩ ⟨Nat.le_of_ble_eq_true rfl, Nat.le_of_ble_eq_true rfl⟩ ?_
        refine z_castS zc_Ke qK_Tb_77 (hT.ke hi6) d_Tb_isSound_21 ?_
        refine z_get zc_Ke 4 (by decide) qF_Tb_96 (hT.ke hi6) rfl d_Tb_isSound_24 ?_
        refine z_callS0 (m_Tb_isNumber hs0 hst _) ym_Tb_isNumber qM_Tb_90 qS_Tb_isNumber d_Tb_isSound_27 rfl (Nat.le_of_ble_eq_true rfl) ⟨Nat.zero_le _, Nat.zero_le _⟩ ⟨Nat.le_of_ble_eq_true rfl, Nat.le_of_ble_eq_true rfl⟩ ?_
        refine z_if_ne 35 d_Tb_isSound_30 (by decide) (fun c_30 => ?_) (fun c_30 => absurd ((zb_0 _).mp c_30) (by obtain ⟨l9, hl9, el9⟩ := hli i hi6; rw [el9, show zin (nI l9) 0 96 = true from zin_ok (n := 96) (by omega) (by decide)]; decide))
        refine z_iinc (v := nI (i + 1)) (L' := [(1, _), (0, _)]) 0 d_Tb_isSound_35 rfl (nI_1 i) (by decide) rfl ?_
        refine z_goto 2 d_Tb_isSound_38 (by decide) ?_
        exact ih_2 (i + 1) (by omega) (by omega)
  exact key_2 (nk + 1) 0 (by omega) (by omega)

/-! the digest -/
def zdg (d : Int64) (f : Nat → Int64) : Nat → Int64
  | 0 => d
  | n + 1 => zdg d f n * 31 + f n
def zdk (d : Int64) (g : Nat → Nat → Int64) (m : Nat) : Nat → Int64
  | 0 => d
  | i + 1 => zdg (zdk d g m i) (g i) m
def dgS (d : Int64) (se : Nat → Int32) (sh : Nat → Nat → Int32) (gr : Nat → Int32) (fw : Int32) (lo : UInt64) (nk : Nat) : Int64 := (zdg (zdk (zdg d (fun w => (se w).toInt64) 9) (fun k w => (sh k w).toInt64) 3 nk) (fun w => (gr w).toInt64) 6 * 31 + fw.toInt64) * 31 + FP.d2l (FP.dmul 4661225614328463360 lo)
def dgT (D : Nat → Int64 → Int64) (d : Int64) : Nat → Int64
  | 0 => d
  | s + 1 => D s (dgT D d s)
def dgE (d : Int64) (lf : Nat → Int32) (ne : Nat) (b : Bool) : Int64 := zdg d (fun e => (lf e).toInt64) ne * 31 + (zb b).toInt64
theorem zdg_congr {d : Int64} {f g : Nat → Int64} : ∀ n, (∀ k, k < n → f k = g k) → zdg d f n = zdg d g n
  | 0, _ => rfl
  | n + 1, h => by
    unfold zdg
    rw [zdg_congr n (fun k hk => h k (by omega)), h n (by omega)]
theorem zdk_congr {d : Int64} {f g : Nat → Nat → Int64} {m : Nat} : ∀ n, (∀ i, i < n → ∀ k, k < m → f i k = g i k) → zdk d f m n = zdk d g m n
  | 0, _ => rfl
  | n + 1, h => by
    unfold zdk
    rw [zdk_congr n (fun i hi => h i (by omega)), zdg_congr m (fun k hk => h n (by omega) k hk)]
theorem dgT_congr {F G : Nat → Int64 → Int64} {d : Int64} : ∀ n, (∀ s, s < n → ∀ x, F s x = G s x) → dgT F d n = dgT G d n
  | 0, _ => rfl
  | n + 1, h => by
    unfold dgT
    rw [dgT_congr n (fun s hs => h s (by omega)), h n (by omega)]
theorem dgS_congr {d : Int64} {se te : Nat → Int32} {sh th : Nat → Nat → Int32} {gr gt : Nat → Int32} {fw fv : Int32} {lo lp : UInt64} {nk : Nat} (h1 : ∀ w, w < 9 → se w = te w) (h2 : ∀ k, k < nk → ∀ w, w < 3 → sh k w = th k w) (h3 : ∀ w, w < 6 → gr w = gt w) (h4 : fw = fv) (h5 : lo = lp) : dgS d se sh gr fw lo nk = dgS d te th gt fv lp nk := by
  subst h4 h5
  unfold dgS
  rw [zdg_congr 9 (fun w hw => congrArg Int32.toInt64 (h1 w hw)), zdk_congr nk (fun k hk w hw => congrArg Int32.toInt64 (h2 k hk w hw)), zdg_congr 6 (fun w hw => congrArg Int32.toInt64 (h3 w hw))]
theorem zb_dg {x : Int64} {b : Bool} (c : ¬ zb b = 0) : x + (1 : Int32).toInt64 = x + (zb b).toInt64 := by rw [(zb_n0 _).mp c]; rfl
theorem zb_dg0 {x : Int64} {b : Bool} (c : zb b = 0) : x + (0 : Int32).toInt64 = x + (zb b).toInt64 := by rw [(zb_0 _).mp c]; rfl

def dSe (V : Nat → Nat → Int32) (nk si : Nat) (gq : Nat → Int32) (x : Int64) : Int64 := dgS x (fun w => qSe V nk si (V (200 + si) 0).toNatClampNeg (nI w)) (fun k w => qSh V si k (nI w)) gq (qFw V nk si) (qLo V nk si) nk
def dAl (V : Nat → Nat → Int32) (nk ns c9 : Nat) (gq : Nat → Nat → Int32) : Int64 := dgE (dgT (fun s => dSe V nk s (gq s)) (zdk (zdg 7507 (fun w => (qBk V nk ns (nI w)).toInt64) 12) (fun k w => (qKe V ns k (nI w)).toInt64) 7 nk) ns) (fun e => zlf (V 6) (V 7) (V 8) (nI e)) c9 (zall (sSnd V) ns && zall (zwhf (V 6) (V 7) (V 8) (V 9)) c9)
section DGK
variable {V V2 : Nat → Nat → Int32} {nk ns si : Nat}
theorem qSe_k (h : zKo V V2) (hs : si < 6) {t : Nat} {w : Int32} : qSe V2 nk si t w = qSe V nk si t w := by
  unfold qSe
  rw [h.row (r := 200 + si) (by omega) (by omega), h.row (r := 400 + si) (by omega) (by omega), show (fun k => V2 (100 + k) 2) = (fun k => V (100 + k) 2) from funext fun k => by rw [h.row (r := 100 + k) (by omega) (by omega)]]
theorem qSh_k (h : zKo V V2) (hs : si < 6) {k : Nat} {w : Int32} : qSh V2 si k w = qSh V si k w := by
  unfold qSh
  rw [h.row (r := 300 + si) (by omega) (by omega), h.row (r := 400 + si) (by omega) (by omega), h.row (r := 100 + k) (by omega) (by omega)]
theorem qFw_k (h : zKo V V2) (hs : si < 6) : qFw V2 nk si = qFw V nk si := by
  have e2 : (fun k => V2 (100 + k) 2) = (fun k => V (100 + k) 2) := funext fun k => by rw [h.row (r := 100 + k) (by omega) (by omega)]
  have e1 : (fun k => V2 (100 + k) 1) = (fun k => V (100 + k) 1) := funext fun k => by rw [h.row (r := 100 + k) (by omega) (by omega)]
  have ec : fwc V2 nk si = fwc V nk si := funext fun s => by
    unfold fwc
    rw [h.row (r := 200 + si) (by omega) (by omega), h.row (r := 400 + si) (by omega) (by omega), e1]
  have el : (fun s b => fwl V2 nk (nI s) (nI b)) = (fun s b => fwl V nk (nI s) (nI b)) := funext fun s => funext fun b => by
    unfold fwl
    rw [e2]
  unfold qFw
  rw [ec, el, h.row (r := 200 + si) (by omega) (by omega), h.row (r := 400 + si) (by omega) (by omega)]
theorem qLo_k (h : zKo V V2) (hs : si < 6) : qLo V2 nk si = qLo V nk si := by
  unfold qLo
  rw [h.row (r := 200 + si) (by omega) (by omega), h.row (r := 400 + si) (by omega) (by omega), show (fun k => V2 (100 + k) 3) = (fun k => V (100 + k) 3) from funext fun k => by rw [h.row (r := 100 + k) (by omega) (by omega)]]
theorem dSe_k (h : zKo V V2) (hs : si < 6) {gq : Nat → Int32} {x : Int64} : dSe V2 nk si gq x = dSe V nk si gq x := by
  unfold dSe
  rw [h.row (r := 200 + si) (by omega) (by omega)]
  exact dgS_congr (fun w _ => qSe_k h hs) (fun k _ w _ => qSh_k h hs) (fun _ _ => rfl) (qFw_k h hs) (qLo_k h hs)
theorem zGa_k (h : zKo V V2) (hs : si < 6) {V4 : Nat → Nat → Int32} {set : Int32} {i : Nat} (hg : zGa V2 V4 si set i) : zGa V V4 si set i := by
  obtain ⟨h1, h2, h3⟩ := hg
  have ef : zgf V2 si set = zgf V si set := funext fun k => by
    unfold zgf
    rw [h.row (r := 200 + si) (by omega) (by omega), h.row (r := 400 + si) (by omega) (by omega)]
  rw [ef, h.row (r := 200 + si) (by omega) (by omega)] at h1
  refine ⟨h1, fun k hk hk2 => ?_, h.tr h3⟩
  rw [h2 k hk (by rw [ef]; exact hk2), h.row (r := 300 + si) (by omega) (by omega), h.row (r := 100 + k) (by omega) (by omega)]
theorem zDd_k (h : zKo V V2) (hs : si < 6) {V4 : Nat → Nat → Int32} {set : Int32} (hd : zDd V2 V4 nk si set) : zDd V V4 nk si set := by
  obtain ⟨V3, q, hq, hg, e, e2⟩ := hd
  exact ⟨V3, q, hq, zGa_k h hs hg, e, e2⟩
theorem sndAll_k (h : zKo V V2) (hns : ns ≤ 6) {c : Nat} : (zall (sSnd V2) ns && zall (zwhf (V2 6) (V2 7) (V2 8) (V2 9)) c) = (zall (sSnd V) ns && zall (zwhf (V 6) (V 7) (V 8) (V 9)) c) := by
  rw [h.row (r := 6) (by decide) (by decide), h.row (r := 7) (by decide) (by decide), h.row (r := 8) (by decide) (by decide), h.row (r := 9) (by decide) (by decide)]
  congr 1
  rw [Bool.eq_iff_iff, zall_iff, zall_iff]
  exact ⟨fun q k hk => by rw [← sSnd_k h (by omega)]; exact q k hk, fun q k hk => by rw [sSnd_k h (by omega)]; exact q k hk⟩
end DGK
theorem zmg_k' {a : UInt64} (h : zmg a 1400) : vf_n64 (FP.dmul 4661225614328463360 a) := (show zmg (FP.dmul 4661225614328463360 a) 2000 from zmg_k h).nn (by decide)

set_option maxHeartbeats 4000000 in
set_option maxRecDepth 100000 in
theorem m_Tb_digestSecretE {g0 : State} {d : zD} {l : Launch} {a0 : Array Value} (hs0 : zS0 d a0 g0) (hst : l.stackTraces = false) {G : zG} {A : Nat → Nat} {D : Nat → UInt64} {V : Nat → Nat → Int32} {nk ns : Nat} (hT : zT d A D V nk ns G) {si : Nat} (hsi : si < ns) {gq : Nat → Int32} (hgr : ∀ V4, zDd V V4 nk si (1 <<< (nI nk &&& 31) - 1) → ∀ w, w < 6 → qGr V4 nk si (nI w) = gq w) (x : Int64) : zMet g0 d l y_Tb_digestSecret c_Tb_digestSecret 8 ((Option.some Jvm.ClassFile.FieldType.long)) 15 0 0 [.ref (A 0), .long x, .ref (A (200 + si))] (G) (zTu d A nk ns V G (fun r => r = some (.long (dSe V nk si gq x)))) (zNo) := by
  have hG_Tb := hT.tb
  have hnk : nk ≤ 8 := hT.2.1
  have hns : ns ≤ 6 := hT.2.2.1
  obtain ⟨t, ht1, ht4, ht⟩ := hT.tn hsi
  have etn : (V (200 + si) 0).toNatClampNeg = t := by rw [ht, nI_clamp (by omega)]
  have htt : V (200 + si) 0 = nI (V (200 + si) 0).toNatClampNeg := by rw [etn]; exact ht
  have ht44 : (V (200 + si) 0).toNatClampNeg ≤ 4 := by rw [etn]; exact ht4
  refine z_entry hs0 hst (by decide) (Nat.le_of_ble_eq_true rfl) (fun p e s m args below meth c => ?_)
  refine z_lload_n 1 d_Tb_digestSecret_0 rfl rfl ?_
  refine z_lstore (L' := [(4, _), (0, _), (1, _), (3, _)]) d_Tb_digestSecret_1 (by decide) rfl ?_
  refine z_iconst (v := (nI 0)) d_Tb_digestSecret_3 (by decide) ?_
  refine z_istore (L' := [(6, _), (4, _), (0, _), (1, _), (3, _)]) d_Tb_digestSecret_4 (by decide) rfl ?_
  have key_6 : ∀ (n : Nat) (w : Nat), 9 - w < n → (w ≤ 9) → Z g0 d y_Tb_digestSecret c_Tb_digestSecret 8 ((Option.some Jvm.ClassFile.FieldType.long)) [] p l e (zR 15 0 0) s m args below meth c (vx_MQ below (zQc g0 d (zTu d A nk ns V G (fun r => r = some (.long (dSe V nk si gq x))))) (zXc g0 d (zNo)) args s 0 0 (zA g0)) 0 0 (G) [(6, .int (nI w)), (4, .long (zdg x (fun w => (qSe V nk si (V (200 + si) 0).toNatClampNeg (nI w)).toInt64) w)), (0, .ref (A 0)), (1, .long x), (3, .ref (A (200 + si)))] [] 6 := by
    intro n
    induction n with
    | zero => intro w h0; exact absurd h0 (Nat.not_lt_zero _)
    | succ n ih_6 =>
      intro w hm_6 hw
      refine z_iload 0 d_Tb_digestSecret_6 rfl ?_
      refine z_bipush (v := (nI 8)) d_Tb_digestSecret_8 (by decide) ?_
      refine z_icmp_gt 36 d_Tb_digestSecret_10 (by decide) (fun c_10 => ?_) (fun c_10 => ?_)
      · skip
        obtain rfl : w = 9 := by
          have := (nI_ltI (a := 8) (b := w) (by decide) (by omega)).mp c_10
          omega
        refine z_iconst (v := (nI 0)) d_Tb_digestSecret_36 (by decide) ?_
        refine z_istore (L' := [(6, _), (4, _), (0, _), (1, _), (3, _)]) d_Tb_digestSecret_37 (by decide) rfl ?_
        have key_39 : ∀ (n : Nat) (i : Nat), nk - i < n → (i ≤ nk) → Z g0 d y_Tb_digestSecret c_Tb_digestSecret 8 ((Option.some Jvm.ClassFile.FieldType.long)) [] p l e (zR 15 0 0) s m args below meth c (vx_MQ below (zQc g0 d (zTu d A nk ns V G (fun r => r = some (.long (dSe V nk si gq x))))) (zXc g0 d (zNo)) args s 0 0 (zA g0)) 0 0 (G) [(6, .int (nI i)), (4, .long (zdk (zdg x (fun w => (qSe V nk si (V (200 + si) 0).toNatClampNeg (nI w)).toInt64) 9) (fun k w => (qSh V si k (nI w)).toInt64) 3 i)), (0, .ref (A 0)), (1, .long x), (3, .ref (A (200 + si)))] [] 39 := by
          intro n
          induction n with
          | zero => intro i h0; exact absurd h0 (Nat.not_lt_zero _)
          | succ n ih_39 =>
            intro i hm_39 hi
            refine z_iload 0 d_Tb_digestSecret_39 rfl ?_
            refine z_aload_n 2 d_Tb_digestSecret_41 rfl rfl ?_
            refine z_get zc_Tb 0 (by decide) qF_Tb_10 (by first | exact hT4.tb | exact hT3.tb | exact hT.tb) rfl d_Tb_digestSecret_42 ?_
            refine z_callV0 (m_AL_size hs0 hst hT.kl) ym_AL_size qM_Tb_68 qI_AL_size qV_AL_AL_size zc_AL hT.kl d_Tb_digestSecret_45 rfl (Nat.le_of_ble_eq_true rfl) ⟨Nat.zero_le _, Nat.zero_le _⟩ ⟨Nat.le_of_ble_eq_true rfl, Nat.le_of_ble_eq_true rfl⟩ ?_
            refine z_icmp_ge 101 d_Tb_digestSecret_48 (by decide) (fun c_48 => ?_) (fun c_48 => ?_)
            · skip
              obtain rfl : nk = i := by
                have := (nI_leI (a := nk) (b := i) (by omega) (by omega)).mp c_48
                omega
              refine z_aload_n 2 d_Tb_digestSecret_101 rfl rfl ?_
              refine z_aload_n 4 d_Tb_digestSecret_102 rfl rfl ?_
              refine z_aload_n 2 d_Tb_digestSecret_103 rfl rfl ?_
              refine z_callV0 (m_Tb_allKeepers hs0 hst hT) ym_Tb_allKeepers qM_Tb_329 qI_Tb_allKeepers qV_Tb_Tb_allKeepers zc_Tb (by first | exact hT4.tb | exact hT3.tb | exact hT.tb) d_Tb_digestSecret_104 rfl (Nat.le_of_ble_eq_true rfl) ⟨Nat.zero_le _, Nat.zero_le _⟩ ⟨Nat.le_of_ble_eq_true rfl, Nat.le_of_ble_eq_true rfl⟩ ?_
              refine z_callVp0 ((m_Tb_gatherGroupE hs0 hst hT hsi _)) ym_Tb_gatherGroup qM_Tb_184 qI_Tb_gatherGroup qV_Tb_Tb_gatherGroup zc_Tb (by first | exact hT4.tb | exact hT3.tb | exact hT.tb) d_Tb_digestSecret_107 rfl (Nat.le_of_ble_eq_true rfl) ⟨Nat.zero_le _, Nat.zero_le _⟩ ⟨Nat.le_of_ble_eq_true rfl, Nat.le_of_ble_eq_true rfl⟩ (fun r_107 G_107 hp_107 => ?_)
              obtain ⟨hr_107, V3, hT3, hK3, hF3⟩ := hp_107
              obtain rfl : r_107 = none := hr_107
              obtain ⟨q9, hq9, eq9⟩ := hT3.2.2.2.1
              have hg9 := hT3.gA
              rw [eq9] at hg9
              refine z_aload_n 2 d_Tb_digestSecret_110 rfl rfl ?_
              refine z_get zc_Tb 4 (by decide) qF_Tb_36 (by first | exact hT4.tb | exact hT3.tb | exact hT.tb) rfl d_Tb_digestSecret_111 ?_
              refine z_callVp0 (m_Gr_decode hs0 hst hg9 hq9) ym_Gr_decode qM_Tb_188 qI_Gr_decode qV_Gr_Gr_decode zc_Gr hT3.gr d_Tb_digestSecret_114 rfl (Nat.le_of_ble_eq_true rfl) ⟨Nat.zero_le _, Nat.zero_le _⟩ ⟨Nat.le_of_ble_eq_true rfl, Nat.le_of_ble_eq_true rfl⟩ (fun r_114 G_114 hp_114 => ?_)
              obtain ⟨hr_114, hg_114⟩ := hp_114
              obtain rfl : r_114 = none := hr_114
              obtain ⟨hT4, hF4⟩ := hT3.putgE (V3 12 0) (zdec (V3 13) (V3 14) (V3 12 0) (nI q9) (V3 12 2) (V3 12 3) q9).1 (zdec (V3 13) (V3 14) (V3 12 0) (nI q9) (V3 12 2) (V3 12 3) q9).2 (p := nI q9) ⟨q9, hq9, rfl⟩
              rw [← hg_114] at hT4 hF4
              have hD4 : zDd V _ nk si (1 <<< (nI nk &&& 31) - 1) := ⟨V3, q9, hq9, hK3, eq9, rfl⟩
              generalize hV4 : rset V3 12 (z4 (V3 12 0) (nI q9) (zdec (V3 13) (V3 14) (V3 12 0) (nI q9) (V3 12 2) (V3 12 3) q9).1 (zdec (V3 13) (V3 14) (V3 12 0) (nI q9) (V3 12 2) (V3 12 3) q9).2) = V4 at hT4 hD4
              refine z_iconst (v := (nI 0)) d_Tb_digestSecret_117 (by decide) ?_
              refine z_istore (L' := [(6, _), (4, _), (0, _), (1, _), (3, _)]) d_Tb_digestSecret_118 (by decide) rfl ?_
              have key_120 : ∀ (n : Nat) (w : Nat), 6 - w < n → (w ≤ 6) → Z g0 d y_Tb_digestSecret c_Tb_digestSecret 8 ((Option.some Jvm.ClassFile.FieldType.long)) [] p l e (zR 15 0 0) s m args below meth c (vx_MQ below (zQc g0 d (zTu d A nk ns V G (fun r => r = some (.long (dSe V nk si gq x))))) (zXc g0 d (zNo)) args s 0 0 (zA g0)) 0 0 (G_114) [(6, .int (nI w)), (4, .long (zdg (zdk (zdg x (fun w => (qSe V nk si (V (200 + si) 0).toNatClampNeg (nI w)).toInt64) 9) (fun k w => (qSh V si k (nI w)).toInt64) 3 nk) (fun w => (gq w).toInt64) w)), (0, .ref (A 0)), (1, .long x), (3, .ref (A (200 + si)))] [] 120 := by
                intro n
                induction n with
                | zero => intro w h0; exact absurd h0 (Nat.not_lt_zero _)
                | succ n ih_120 =>
                  intro w hm_120 hw
                  refine z_iload 0 d_Tb_digestSecret_120 rfl ?_
                  refine z_iconst (v := (nI 5)) d_Tb_digestSecret_122 (by decide) ?_
                  refine z_icmp_gt 149 d_Tb_digestSecret_123 (by decide) (fun c_123 => ?_) (fun c_123 => ?_)
                  · skip
                    obtain rfl : w = 6 := by
                      have := (nI_ltI (a := 5) (b := w) (by decide) (by omega)).mp c_123
                      omega
                    refine z_lload 1 d_Tb_digestSecret_149 rfl ?_
                    refine z_ldc2 qXl_Tb_316 d_Tb_digestSecret_151 ?_
                    refine z_lmul d_Tb_digestSecret_154 ?_
                    refine z_aload_n 2 d_Tb_digestSecret_155 rfl rfl ?_
                    refine z_aload_n 4 d_Tb_digestSecret_156 rfl rfl ?_
                    refine z_callV0 ((m_Tb_fewestOfE hs0 hst hT4 hsi)) ym_Tb_fewestOf qM_Tb_298 qI_Tb_fewestOf qV_Tb_Tb_fewestOf zc_Tb (by first | exact hT4.tb | exact hT3.tb | exact hT.tb) d_Tb_digestSecret_157 rfl (Nat.le_of_ble_eq_true rfl) ⟨Nat.zero_le _, Nat.zero_le _⟩ ⟨Nat.le_of_ble_eq_true rfl, Nat.le_of_ble_eq_true rfl⟩ ?_
                    refine z_topv (qFw_k hD4.k (by omega)) ?_
                    refine z_i2l d_Tb_digestSecret_160 rfl ?_
                    refine z_ladd d_Tb_digestSecret_161 ?_
                    refine z_lstore (L' := [(4, _), (6, _), (0, _), (1, _), (3, _)]) d_Tb_digestSecret_162 (by decide) rfl ?_
                    refine z_lload 0 d_Tb_digestSecret_164 rfl ?_
                    refine z_ldc2 qXl_Tb_316 d_Tb_digestSecret_166 ?_
                    refine z_lmul d_Tb_digestSecret_169 ?_
                    refine z_ldc2d qXd_Tb_332 d_Tb_digestSecret_170 ?_
                    refine z_aload_n 2 d_Tb_digestSecret_173 rfl rfl ?_
                    refine z_aload_n 4 d_Tb_digestSecret_174 rfl rfl ?_
                    refine z_callVp0 ((m_Tb_chanceLostE hs0 hst hT4 hsi)) ym_Tb_chanceLost qM_Tb_294 qI_Tb_chanceLost qV_Tb_Tb_chanceLost zc_Tb (by first | exact hT4.tb | exact hT3.tb | exact hT.tb) d_Tb_digestSecret_175 rfl (Nat.le_of_ble_eq_true rfl) ⟨Nat.zero_le _, Nat.zero_le _⟩ ⟨Nat.le_of_ble_eq_true rfl, Nat.le_of_ble_eq_true rfl⟩ (fun r_175 G_175 hp_175 => ?_)
                    obtain ⟨⟨hr_175, hu9⟩, D5, V5, hT5, hK5, hF5⟩ := hp_175
                    have hlo : qLo V4 nk si = qLo V nk si := qLo_k hD4.k (by omega)
                    have hu8 : zmg (qLo V nk si) 1400 := by rw [← hlo]; exact hu9
                    obtain rfl : r_175 = some (.double (qLo V nk si)) := hr_175.trans (by rw [← hlo]; rfl)
                    refine z_dmul d_Tb_digestSecret_178 (zmg_k' hu8) ?_
                    refine z_d2l d_Tb_digestSecret_179 ?_
                    refine z_ladd d_Tb_digestSecret_180 ?_
                    exact z_lret rfl (⟨rfl, D5, V5, hT5, hD4.k.tr hK5, (hF3.tr hF4).tr hF5⟩) (by first | decide | omega) (by first | decide | omega) d_Tb_digestSecret_181
                  · skip
                    have hw6 : w ≤ 5 := Nat.le_of_not_lt fun q => c_123 ((nI_ltI (a := 5) (b := w) (by decide) (by omega)).mpr q)
                    refine z_lload 1 d_Tb_digestSecret_126 rfl ?_
                    refine z_ldc2 qXl_Tb_316 d_Tb_digestSecret_128 ?_
                    refine z_lmul d_Tb_digestSecret_131 ?_
                    refine z_aload_n 2 d_Tb_digestSecret_132 rfl rfl ?_
                    refine z_aload_n 4 d_Tb_digestSecret_133 rfl rfl ?_
                    refine z_iload 0 d_Tb_digestSecret_134 rfl ?_
                    refine z_callV0 ((m_Tb_tellOfGroupE hs0 hst hT4 hsi (nI w))) ym_Tb_tellOfGroup qM_Tb_283 qI_Tb_tellOfGroup qV_Tb_Tb_tellOfGroup zc_Tb (by first | exact hT4.tb | exact hT3.tb | exact hT.tb) d_Tb_digestSecret_136 rfl (Nat.le_of_ble_eq_true rfl) ⟨Nat.zero_le _, Nat.zero_le _⟩ ⟨Nat.le_of_ble_eq_true rfl, Nat.le_of_ble_eq_true rfl⟩ ?_
                    refine z_topv (hgr V4 hD4 w (by omega)) ?_
                    refine z_i2l d_Tb_digestSecret_139 rfl ?_
                    refine z_ladd d_Tb_digestSecret_140 ?_
                    refine z_lstore (L' := [(4, _), (6, _), (0, _), (1, _), (3, _)]) d_Tb_digestSecret_141 (by decide) rfl ?_
                    refine z_iinc (v := nI (w + 1)) (L' := [(6, _), (4, _), (0, _), (1, _), (3, _)]) 1 d_Tb_digestSecret_143 rfl (nI_1 w) (by decide) rfl ?_
                    refine z_goto 120 d_Tb_digestSecret_146 (by decide) ?_
                    exact ih_120 (w + 1) (by omega) (by omega)
              exact key_120 7 0 (by omega) (by omega)
            · skip
              have hi6 : i < nk := Nat.lt_of_not_le fun q => c_48 (nI_le q (by omega))
              refine z_iconst (v := (nI 0)) d_Tb_digestSecret_51 (by decide) ?_
              refine z_istore (L' := [(7, _), (6, _), (4, _), (0, _), (1, _), (3, _)]) d_Tb_digestSecret_52 (by decide) rfl ?_
              have key_54 : ∀ (n : Nat) (w : Nat), 3 - w < n → (w ≤ 3) → Z g0 d y_Tb_digestSecret c_Tb_digestSecret 8 ((Option.some Jvm.ClassFile.FieldType.long)) [] p l e (zR 15 0 0) s m args below meth c (vx_MQ below (zQc g0 d (zTu d A nk ns V G (fun r => r = some (.long (dSe V nk si gq x))))) (zXc g0 d (zNo)) args s 0 0 (zA g0)) 0 0 (G) [(7, .int (nI w)), (6, .int (nI i)), (4, .long (zdg (zdk (zdg x (fun w => (qSe V nk si (V (200 + si) 0).toNatClampNeg (nI w)).toInt64) 9) (fun k w => (qSh V si k (nI w)).toInt64) 3 i) ((fun k w => (qSh V si k (nI w)).toInt64) i) w)), (0, .ref (A 0)), (1, .long x), (3, .ref (A (200 + si)))] [] 54 := by
                intro n
                induction n with
                | zero => intro w h0; exact absurd h0 (Nat.not_lt_zero _)
                | succ n ih_54 =>
                  intro w hm_54 hw
                  refine z_iload 0 d_Tb_digestSecret_54 rfl ?_
                  refine z_iconst (v := (nI 2)) d_Tb_digestSecret_56 (by decide) ?_
                  refine z_icmp_gt 95 d_Tb_digestSecret_57 (by decide) (fun c_57 => ?_) (fun c_57 => ?_)
                  · skip
                    obtain rfl : w = 3 := by
                      have := (nI_ltI (a := 2) (b := w) (by decide) (by omega)).mp c_57
                      omega
                    refine z_iinc (v := nI (i + 1)) (L' := [(6, _), (7, _), (4, _), (0, _), (1, _), (3, _)]) 1 d_Tb_digestSecret_95 rfl (nI_1 i) (by decide) rfl ?_
                    refine z_goto 39 d_Tb_digestSecret_98 (by decide) ?_
                    refine z_sub (L' := [(6, _), (4, _), (0, _), (1, _), (3, _)]) [0, 2, 3, 4, 5] rfl ?_
                    exact ih_39 (i + 1) (by omega) (by omega)
                  · skip
                    have hw6 : w ≤ 2 := Nat.le_of_not_lt fun q => c_57 ((nI_ltI (a := 2) (b := w) (by decide) (by omega)).mpr q)
                    refine z_lload 2 d_Tb_digestSecret_60 rfl ?_
                    refine z_ldc2 qXl_Tb_316 d_Tb_digestSecret_62 ?_
                    refine z_lmul d_Tb_digestSecret_65 ?_
                    refine z_aload_n 3 d_Tb_digestSecret_66 rfl rfl ?_
                    refine z_aload_n 5 d_Tb_digestSecret_67 rfl rfl ?_
                    refine z_aload_n 3 d_Tb_digestSecret_68 rfl rfl ?_
                    refine z_get zc_Tb 0 (by decide) qF_Tb_10 (by first | exact hT4.tb | exact hT3.tb | exact hT.tb) rfl d_Tb_digestSecret_69 ?_
                    refine z_iload 1 d_Tb_digestSecret_72 rfl ?_
                    refine z_callV0 (m_AL_get hs0 hst (hT.kA hi6) hi6 (if_pos hi6)) ym_AL_get qM_Tb_166 qI_AL_get qV_AL_AL_get zc_AL (hT.kA hi6).1 d_Tb_digestSecret_74 rfl (Nat.le_of_ble_eq_true rfl) ⟨Nat.zero_le _, Nat.zero_le _⟩ ⟨Nat.le_of_ble_eq_true rfl, Nat.le_of_ble_eq_true rfl⟩ ?_
                    refine z_castS zc_Ke qK_Tb_77 (hT.ke hi6) d_Tb_digestSecret_77 ?_
                    refine z_iload 0 d_Tb_digestSecret_80 rfl ?_
                    refine z_callV0 ((m_Tb_tellOfShareE hs0 hst hT hsi hi6 (nI w))) ym_Tb_tellOfShare qM_Tb_244 qI_Tb_tellOfShare qV_Tb_Tb_tellOfShare zc_Tb (by first | exact hT4.tb | exact hT3.tb | exact hT.tb) d_Tb_digestSecret_82 rfl (Nat.le_of_ble_eq_true rfl) ⟨Nat.zero_le _, Nat.zero_le _⟩ ⟨Nat.le_of_ble_eq_true rfl, Nat.le_of_ble_eq_true rfl⟩ ?_
                    refine z_i2l d_Tb_digestSecret_85 rfl ?_
                    refine z_ladd d_Tb_digestSecret_86 ?_
                    refine z_lstore (L' := [(4, _), (7, _), (6, _), (0, _), (1, _), (3, _)]) d_Tb_digestSecret_87 (by decide) rfl ?_
                    refine z_iinc (v := nI (w + 1)) (L' := [(7, _), (4, _), (6, _), (0, _), (1, _), (3, _)]) 1 d_Tb_digestSecret_89 rfl (nI_1 w) (by decide) rfl ?_
                    refine z_goto 54 d_Tb_digestSecret_92 (by decide) ?_
                    refine z_sub (L' := [(7, _), (6, _), (4, _), (0, _), (1, _), (3, _)]) [0, 2, 1, 3, 4, 5] rfl ?_
                    exact ih_54 (w + 1) (by omega) (by omega)
              exact key_54 4 0 (by omega) (by omega)
        exact key_39 (nk + 1) 0 (by omega) (by omega)
      · skip
        have hw6 : w ≤ 8 := Nat.le_of_not_lt fun q => c_10 ((nI_ltI (a := 8) (b := w) (by decide) (by omega)).mpr q)
        refine z_lload 1 d_Tb_digestSecret_13 rfl ?_
        refine z_ldc2 qXl_Tb_316 d_Tb_digestSecret_15 ?_
        refine z_lmul d_Tb_digestSecret_18 ?_
        refine z_aload_n 2 d_Tb_digestSecret_19 rfl rfl ?_
        refine z_aload_n 4 d_Tb_digestSecret_20 rfl rfl ?_
        refine z_iload 0 d_Tb_digestSecret_21 rfl ?_
        refine z_callV0 ((m_Tb_tellOfSecretE hs0 hst hT hsi (nI w) htt ht44)) ym_Tb_tellOfSecret qM_Tb_238 qI_Tb_tellOfSecret qV_Tb_Tb_tellOfSecret zc_Tb (by first | exact hT4.tb | exact hT3.tb | exact hT.tb) d_Tb_digestSecret_23 rfl (Nat.le_of_ble_eq_true rfl) ⟨Nat.zero_le _, Nat.zero_le _⟩ ⟨Nat.le_of_ble_eq_true rfl, Nat.le_of_ble_eq_true rfl⟩ ?_
        refine z_i2l d_Tb_digestSecret_26 rfl ?_
        refine z_ladd d_Tb_digestSecret_27 ?_
        refine z_lstore (L' := [(4, _), (6, _), (0, _), (1, _), (3, _)]) d_Tb_digestSecret_28 (by decide) rfl ?_
        refine z_iinc (v := nI (w + 1)) (L' := [(6, _), (4, _), (0, _), (1, _), (3, _)]) 1 d_Tb_digestSecret_30 rfl (nI_1 w) (by decide) rfl ?_
        refine z_goto 6 d_Tb_digestSecret_33 (by decide) ?_
        exact ih_6 (w + 1) (by omega) (by omega)
  exact key_6 10 0 (by omega) (by omega)
set_option maxHeartbeats 4000000 in
set_option maxRecDepth 100000 in
theorem m_Tb_digestE {g0 : State} {d : zD} {l : Launch} {a0 : Array Value} (hs0 : zS0 d a0 g0) (hst : l.stackTraces = false) {G : zG} {A : Nat → Nat} {D : Nat → UInt64} {V : Nat → Nat → Int32} {nk ns : Nat} (hT : zT d A D V nk ns G) {gq : Nat → Nat → Int32} (hgr : ∀ si, si < ns → ∀ V4, zDd V V4 nk si (1 <<< (nI nk &&& 31) - 1) → ∀ w, w < 6 → qGr V4 nk si (nI w) = gq si w) (hsd : ∀ si, si < ns → sdOk V si) {iv : Nat → Nat} (hiv : zIv (V 13) iv) (hvv : zVv iv) (hli : ∀ k, k < nk → ∃ l, l < 97 ∧ V (100 + k) 4 = nI l) : zMet g0 d l y_Tb_digest c_Tb_digest 5 ((Option.some Jvm.ClassFile.FieldType.long)) 16 0 0 [.ref (A 0)] (G) (zTu d A nk ns V G (fun r => ∃ c9, c9 ≤ 64 ∧ V 5 0 = nI c9 ∧ r = some (.long (dAl V nk ns c9 gq)))) (zNo) := by
  have hG_Tb := hT.tb
  have hnk : nk ≤ 8 := hT.2.1
  have hns : ns ≤ 6 := hT.2.2.1
  refine z_entry hs0 hst (by decide) (Nat.le_of_ble_eq_true rfl) (fun p e s m args below meth c => ?_)
  refine z_ldc2 qXl_Tb_314 d_Tb_digest_0 ?_
  refine z_lstore_n (L' := [(1, _), (0, _)]) d_Tb_digest_3 rfl (by decide) rfl ?_
  refine z_iconst (v := (nI 0)) d_Tb_digest_4 (by decide) ?_
  refine z_istore_n (L' := [(3, _), (1, _), (0, _)]) d_Tb_digest_5 rfl (by decide) rfl ?_
  have key_6 : ∀ (n : Nat) (w : Nat), 12 - w < n → (w ≤ 12) → Z g0 d y_Tb_digest c_Tb_digest 5 ((Option.some Jvm.ClassFile.FieldType.long)) [] p l e (zR 16 0 0) s m args below meth c (vx_MQ below (zQc g0 d (zTu d A nk ns V G (fun r => ∃ c9, c9 ≤ 64 ∧ V 5 0 = nI c9 ∧ r = some (.long (dAl V nk ns c9 gq))))) (zXc g0 d (zNo)) args s 0 0 (zA g0)) 0 0 (G) [(3, .int (nI w)), (1, .long (zdg 7507 (fun w => (qBk V nk ns (nI w)).toInt64) w)), (0, .ref (A 0))] [] 6 := by
    intro n
    induction n with
    | zero => intro w h0; exact absurd h0 (Nat.not_lt_zero _)
    | succ n ih_6 =>
      intro w hm_6 hw
      refine z_iload_n 0 d_Tb_digest_6 rfl rfl ?_
      refine z_bipush (v := (nI 11)) d_Tb_digest_7 (by decide) ?_
      refine z_icmp_gt 31 d_Tb_digest_9 (by decide) (fun c_9 => ?_) (fun c_9 => ?_)
      · skip
        obtain rfl : w = 12 := by
          have := (nI_ltI (a := 11) (b := w) (by decide) (by omega)).mp c_9
          omega
        refine z_iconst (v := (nI 0)) d_Tb_digest_31 (by decide) ?_
        refine z_istore_n (L' := [(3, _), (1, _), (0, _)]) d_Tb_digest_32 rfl (by decide) rfl ?_
        have key_33 : ∀ (n : Nat) (i : Nat), nk - i < n → (i ≤ nk) → Z g0 d y_Tb_digest c_Tb_digest 5 ((Option.some Jvm.ClassFile.FieldType.long)) [] p l e (zR 16 0 0) s m args below meth c (vx_MQ below (zQc g0 d (zTu d A nk ns V G (fun r => ∃ c9, c9 ≤ 64 ∧ V 5 0 = nI c9 ∧ r = some (.long (dAl V nk ns c9 gq))))) (zXc g0 d (zNo)) args s 0 0 (zA g0)) 0 0 (G) [(3, .int (nI i)), (1, .long (zdk (zdg 7507 (fun w => (qBk V nk ns (nI w)).toInt64) 12) (fun k w => (qKe V ns k (nI w)).toInt64) 7 i)), (0, .ref (A 0))] [] 33 := by
          intro n
          induction n with
          | zero => intro i h0; exact absurd h0 (Nat.not_lt_zero _)
          | succ n ih_33 =>
            intro i hm_33 hi
            refine z_iload_n 0 d_Tb_digest_33 rfl rfl ?_
            refine z_aload_n 2 d_Tb_digest_34 rfl rfl ?_
            refine z_get zc_Tb 0 (by decide) qF_Tb_10 (by first | exact hT2.tb | exact hT.tb) rfl d_Tb_digest_35 ?_
            refine z_callV0 (m_AL_size hs0 hst hT.kl) ym_AL_size qM_Tb_68 qI_AL_size qV_AL_AL_size zc_AL hT.kl d_Tb_digest_38 rfl (Nat.le_of_ble_eq_true rfl) ⟨Nat.zero_le _, Nat.zero_le _⟩ ⟨Nat.le_of_ble_eq_true rfl, Nat.le_of_ble_eq_true rfl⟩ ?_
            refine z_icmp_ge 91 d_Tb_digest_41 (by decide) (fun c_41 => ?_) (fun c_41 => ?_)
            · skip
              obtain rfl : nk = i := by
                have := (nI_leI (a := nk) (b := i) (by omega) (by omega)).mp c_41
                omega
              refine z_iconst (v := (nI 0)) d_Tb_digest_91 (by decide) ?_
              refine z_istore_n (L' := [(3, _), (1, _), (0, _)]) d_Tb_digest_92 rfl (by decide) rfl ?_
              have key_93 : ∀ (n : Nat) (i : Nat) (G2 : zG) (D2 : Nat → UInt64) (V2 : Nat → Nat → Int32), ns - i < n → (i ≤ ns) → (zT d A D2 V2 nk ns G2) → (zKo V V2) → (tFr A nk ns G G2) → Z g0 d y_Tb_digest c_Tb_digest 5 ((Option.some Jvm.ClassFile.FieldType.long)) [] p l e (zR 16 0 0) s m args below meth c (vx_MQ below (zQc g0 d (zTu d A nk ns V G (fun r => ∃ c9, c9 ≤ 64 ∧ V 5 0 = nI c9 ∧ r = some (.long (dAl V nk ns c9 gq))))) (zXc g0 d (zNo)) args s 0 0 (zA g0)) 0 0 (G2) [(3, .int (nI i)), (1, .long (dgT (fun s => dSe V nk s (gq s)) (zdk (zdg 7507 (fun w => (qBk V nk ns (nI w)).toInt64) 12) (fun k w => (qKe V ns k (nI w)).toInt64) 7 nk) i)), (0, .ref (A 0))] [] 93 := by
                intro n
                induction n with
                | zero => intro i G2 D2 V2 h0; exact absurd h0 (Nat.not_lt_zero _)
                | succ n ih_93 =>
                  intro i G2 D2 V2 hm_93 hi hT2 hK2 hF2
                  refine z_iload_n 0 d_Tb_digest_93 rfl rfl ?_
                  refine z_aload_n 2 d_Tb_digest_94 rfl rfl ?_
                  refine z_get zc_Tb 1 (by decide) qF_Tb_16 (by first | exact hT2.tb | exact hT.tb) rfl d_Tb_digest_95 ?_
                  refine z_callV0 (m_AL_size hs0 hst hT2.sl) ym_AL_size qM_Tb_68 qI_AL_size qV_AL_AL_size zc_AL hT2.sl d_Tb_digest_98 rfl (Nat.le_of_ble_eq_true rfl) ⟨Nat.zero_le _, Nat.zero_le _⟩ ⟨Nat.le_of_ble_eq_true rfl, Nat.le_of_ble_eq_true rfl⟩ ?_
                  refine z_icmp_ge 127 d_Tb_digest_101 (by decide) (fun c_101 => ?_) (fun c_101 => ?_)
                  · skip
                    obtain rfl : ns = i := by
                      have := (nI_leI (a := ns) (b := i) (by omega) (by omega)).mp c_101
                      omega
                    obtain ⟨c9, hc9, ec9, hR9⟩ := hT2.rN
                    refine z_iconst (v := (nI 0)) d_Tb_digest_127 (by decide) ?_
                    refine z_istore_n (L' := [(3, _), (1, _), (0, _)]) d_Tb_digest_128 rfl (by decide) rfl ?_
                    have key_129 : ∀ (n : Nat) (i : Nat), c9 - i < n → (i ≤ c9) → Z g0 d y_Tb_digest c_Tb_digest 5 ((Option.some Jvm.ClassFile.FieldType.long)) [] p l e (zR 16 0 0) s m args below meth c (vx_MQ below (zQc g0 d (zTu d A nk ns V G (fun r => ∃ c9, c9 ≤ 64 ∧ V 5 0 = nI c9 ∧ r = some (.long (dAl V nk ns c9 gq))))) (zXc g0 d (zNo)) args s 0 0 (zA g0)) 0 0 (G2) [(3, .int (nI i)), (1, .long (zdg (dgT (fun s => dSe V nk s (gq s)) (zdk (zdg 7507 (fun w => (qBk V nk ns (nI w)).toInt64) 12) (fun k w => (qKe V ns k (nI w)).toInt64) 7 nk) ns) (fun e => (zlf (V 6) (V 7) (V 8) (nI e)).toInt64) i)), (0, .ref (A 0))] [] 129 := by
                      intro n
                      induction n with
                      | zero => intro i h0; exact absurd h0 (Nat.not_lt_zero _)
                      | succ n ih_129 =>
                        intro i hm_129 hi
                        refine z_iload_n 0 d_Tb_digest_129 rfl rfl ?_
                        refine z_aload_n 2 d_Tb_digest_130 rfl rfl ?_
                        refine z_get zc_Tb 2 (by decide) qF_Tb_22 (by first | exact hT2.tb | exact hT.tb) rfl d_Tb_digest_131 ?_
                        refine z_callV0 (m_Re_size hs0 hst hT2.re) ym_Re_size qM_Tb_322 qI_Re_size qV_Re_Re_size zc_Re hT2.re d_Tb_digest_134 rfl (Nat.le_of_ble_eq_true rfl) ⟨Nat.zero_le _, Nat.zero_le _⟩ ⟨Nat.le_of_ble_eq_true rfl, Nat.le_of_ble_eq_true rfl⟩ ?_
                        rw [ec9]
                        refine z_icmp_ge 162 d_Tb_digest_137 (by decide) (fun c_137 => ?_) (fun c_137 => ?_)
                        · skip
                          obtain rfl : c9 = i := by
                            have := (nI_leI (a := c9) (b := i) (by omega) (by omega)).mp c_137
                            omega
                          refine z_lload_n 1 d_Tb_digest_162 rfl rfl ?_
                          refine z_ldc2 qXl_Tb_316 d_Tb_digest_163 ?_
                          refine z_lmul d_Tb_digest_166 ?_
                          refine z_aload_n 2 d_Tb_digest_167 rfl rfl ?_
                          refine z_callVp0 ((m_Tb_isSoundE hs0 hst hT2 (fun si hsi => sdOk.k hK2 (by omega) (hsd si hsi)) (by rw [hK2.row (r := 13) (by decide) (by decide)]; exact hiv) hvv (fun k hk => by rw [hK2.row (r := 100 + k) (by omega) (by omega)]; exact hli k hk))) ym_Tb_isSound qM_Tb_326 qI_Tb_isSound qV_Tb_Tb_isSound zc_Tb (by first | exact hT2.tb | exact hT.tb) d_Tb_digest_168 rfl (Nat.le_of_ble_eq_true rfl) ⟨Nat.zero_le _, Nat.zero_le _⟩ ⟨Nat.le_of_ble_eq_true rfl, Nat.le_of_ble_eq_true rfl⟩ (fun r_168 G_168 hp_168 => ?_)
                          obtain ⟨⟨c8, hc8, ec8, hr_168⟩, D3, V3, hT3, hK3, hF3⟩ := hp_168
                          rw [sndAll_k hK2 hns] at hr_168
                          obtain rfl : c9 = c8 := (nI_eq (by omega) (by omega)).mp (ec9.symm.trans ec8)
                          obtain rfl : r_168 = _ := hr_168
                          refine z_if_eq 178 d_Tb_digest_171 (by decide) (fun c_171 => ?_) (fun c_171 => ?_)
                          · skip
                            refine z_iconst (v := 0) d_Tb_digest_178 (by decide) ?_
                            refine z_i2l d_Tb_digest_179 rfl ?_
                            refine z_ladd d_Tb_digest_180 ?_
                            exact z_lret rfl (⟨⟨c9, hc9, by rw [← hK2.row (r := 5) (by decide) (by decide)]; exact ec9, by unfold dAl dgE; first | exact congrArg (fun q => some (Value.long q)) (zb_dg c_171) | exact congrArg (fun q => some (Value.long q)) (zb_dg0 c_171)⟩, D3, V3, hT3, hK2.tr hK3, hF2.tr hF3⟩) (by first | decide | omega) (by first | decide | omega) d_Tb_digest_181
                          · skip
                            refine z_iconst (v := 1) d_Tb_digest_174 (by decide) ?_
                            refine z_goto 179 d_Tb_digest_175 (by decide) ?_
                            refine z_i2l d_Tb_digest_179 rfl ?_
                            refine z_ladd d_Tb_digest_180 ?_
                            exact z_lret rfl (⟨⟨c9, hc9, by rw [← hK2.row (r := 5) (by decide) (by decide)]; exact ec9, by unfold dAl dgE; first | exact congrArg (fun q => some (Value.long q)) (zb_dg c_171) | exact congrArg (fun q => some (Value.long q)) (zb_dg0 c_171)⟩, D3, V3, hT3, hK2.tr hK3, hF2.tr hF3⟩) (by first | decide | omega) (by first | decide | omega) d_Tb_digest_181
                        · skip
                          have hi6 : i < c9 := Nat.lt_of_not_le fun q => c_137 (nI_le q (by omega))
                          refine z_lload_n 1 d_Tb_digest_140 rfl rfl ?_
                          refine z_ldc2 qXl_Tb_316 d_Tb_digest_141 ?_
                          refine z_lmul d_Tb_digest_144 ?_
                          refine z_aload_n 2 d_Tb_digest_145 rfl rfl ?_
                          refine z_get zc_Tb 2 (by decide) qF_Tb_22 (by first | exact hT2.tb | exact hT.tb) rfl d_Tb_digest_146 ?_
                          refine z_iload_n 0 d_Tb_digest_149 rfl rfl ?_
                          refine z_callV0 (m_Re_leafOf hs0 hst hT2.rA (nI i)) ym_Re_leafOf qM_Tb_323 qI_Re_leafOf qV_Re_Re_leafOf zc_Re hT2.re d_Tb_digest_150 rfl (Nat.le_of_ble_eq_true rfl) ⟨Nat.zero_le _, Nat.zero_le _⟩ ⟨Nat.le_of_ble_eq_true rfl, Nat.le_of_ble_eq_true rfl⟩ ?_
                          refine z_topv (v := zlf (V 6) (V 7) (V 8) (nI i)) (by rw [hK2.row (r := 6) (by decide) (by decide), hK2.row (r := 7) (by decide) (by decide), hK2.row (r := 8) (by decide) (by decide)]) ?_
                          refine z_i2l d_Tb_digest_153 rfl ?_
                          refine z_ladd d_Tb_digest_154 ?_
                          refine z_lstore_n (L' := [(1, _), (3, _), (0, _)]) d_Tb_digest_155 rfl (by decide) rfl ?_
                          refine z_iinc (v := nI (i + 1)) (L' := [(3, _), (1, _), (0, _)]) 1 d_Tb_digest_156 rfl (nI_1 i) (by decide) rfl ?_
                          refine z_goto 129 d_Tb_digest_159 (by decide) ?_
                          exact ih_129 (i + 1) (by omega) (by omega)
                    exact key_129 (c9 + 1) 0 (by omega) (by omega)
                  · skip
                    have hi6 : i < ns := Nat.lt_of_not_le fun q => c_101 (nI_le q (by omega))
                    refine z_aload_n 2 d_Tb_digest_104 rfl rfl ?_
                    refine z_lload_n 1 d_Tb_digest_105 rfl rfl ?_
                    refine z_aload_n 2 d_Tb_digest_106 rfl rfl ?_
                    refine z_get zc_Tb 1 (by decide) qF_Tb_16 (by first | exact hT2.tb | exact hT.tb) rfl d_Tb_digest_107 ?_
                    refine z_iload_n 0 d_Tb_digest_110 rfl rfl ?_
                    refine z_callV0 (m_AL_get hs0 hst (hT2.sA hi6) hi6 (if_pos hi6)) ym_AL_get qM_Tb_166 qI_AL_get qV_AL_AL_get zc_AL (hT2.sA hi6).1 d_Tb_digest_111 rfl (Nat.le_of_ble_eq_true rfl) ⟨Nat.zero_le _, Nat.zero_le _⟩ ⟨Nat.le_of_ble_eq_true rfl, Nat.le_of_ble_eq_true rfl⟩ ?_
                    refine z_castS zc_Se qK_Tb_115 (hT2.se hi6).1 d_Tb_digest_114 ?_
                    refine z_callVp0 ((m_Tb_digestSecretE hs0 hst hT2 hi6 (gq := gq i) (fun V4 hd => hgr i hi6 V4 (zDd_k hK2 (by omega) hd)) _)) ym_Tb_digestSecret qM_Tb_318 qI_Tb_digestSecret qV_Tb_Tb_digestSecret zc_Tb (by first | exact hT2.tb | exact hT.tb) d_Tb_digest_117 rfl (Nat.le_of_ble_eq_true rfl) ⟨Nat.zero_le _, Nat.zero_le _⟩ ⟨Nat.le_of_ble_eq_true rfl, Nat.le_of_ble_eq_true rfl⟩ (fun r_117 G_117 hp_117 => ?_)
                    obtain ⟨hr_117, D3, V3, hT3, hK3, hF3⟩ := hp_117
                    rw [dSe_k hK2 (by omega)] at hr_117
                    obtain rfl : r_117 = _ := hr_117
                    refine z_lstore_n (L' := [(1, _), (3, _), (0, _)]) d_Tb_digest_120 rfl (by decide) rfl ?_
                    refine z_iinc (v := nI (i + 1)) (L' := [(3, _), (1, _), (0, _)]) 1 d_Tb_digest_121 rfl (nI_1 i) (by decide) rfl ?_
                    refine z_goto 93 d_Tb_digest_124 (by decide) ?_
                    exact ih_93 (i + 1) _ _ _ (by omega) (by omega) hT3 (hK2.tr hK3) (hF2.tr hF3)
              exact key_93 (ns + 1) 0 _ _ _ (by omega) (by omega) hT zKo.rf zFr.rf
            · skip
              have hi6 : i < nk := Nat.lt_of_not_le fun q => c_41 (nI_le q (by omega))
              refine z_iconst (v := (nI 0)) d_Tb_digest_44 (by decide) ?_
              refine z_istore (L' := [(4, _), (3, _), (1, _), (0, _)]) d_Tb_digest_45 (by decide) rfl ?_
              have key_47 : ∀ (n : Nat) (w : Nat), 7 - w < n → (w ≤ 7) → Z g0 d y_Tb_digest c_Tb_digest 5 ((Option.some Jvm.ClassFile.FieldType.long)) [] p l e (zR 16 0 0) s m args below meth c (vx_MQ below (zQc g0 d (zTu d A nk ns V G (fun r => ∃ c9, c9 ≤ 64 ∧ V 5 0 = nI c9 ∧ r = some (.long (dAl V nk ns c9 gq))))) (zXc g0 d (zNo)) args s 0 0 (zA g0)) 0 0 (G) [(4, .int (nI w)), (3, .int (nI i)), (1, .long (zdg (zdk (zdg 7507 (fun w => (qBk V nk ns (nI w)).toInt64) 12) (fun k w => (qKe V ns k (nI w)).toInt64) 7 i) ((fun k w => (qKe V ns k (nI w)).toInt64) i) w)), (0, .ref (A 0))] [] 47 := by
                intro n
                induction n with
                | zero => intro w h0; exact absurd h0 (Nat.not_lt_zero _)
                | succ n ih_47 =>
                  intro w hm_47 hw
                  refine z_iload 0 d_Tb_digest_47 rfl ?_
                  refine z_bipush (v := (nI 6)) d_Tb_digest_49 (by decide) ?_
                  refine z_icmp_gt 85 d_Tb_digest_51 (by decide) (fun c_51 => ?_) (fun c_51 => ?_)
                  · skip
                    obtain rfl : w = 7 := by
                      have := (nI_ltI (a := 6) (b := w) (by decide) (by omega)).mp c_51
                      omega
                    refine z_iinc (v := nI (i + 1)) (L' := [(3, _), (4, _), (1, _), (0, _)]) 1 d_Tb_digest_85 rfl (nI_1 i) (by decide) rfl ?_
                    refine z_goto 33 d_Tb_digest_88 (by decide) ?_
                    refine z_sub (L' := [(3, _), (1, _), (0, _)]) [0, 2, 3] rfl ?_
                    exact ih_33 (i + 1) (by omega) (by omega)
                  · skip
                    have hw6 : w ≤ 6 := Nat.le_of_not_lt fun q => c_51 ((nI_ltI (a := 6) (b := w) (by decide) (by omega)).mpr q)
                    refine z_lload_n 2 d_Tb_digest_54 rfl rfl ?_
                    refine z_ldc2 qXl_Tb_316 d_Tb_digest_55 ?_
                    refine z_lmul d_Tb_digest_58 ?_
                    refine z_aload_n 3 d_Tb_digest_59 rfl rfl ?_
                    refine z_aload_n 3 d_Tb_digest_60 rfl rfl ?_
                    refine z_get zc_Tb 0 (by decide) qF_Tb_10 (by first | exact hT2.tb | exact hT.tb) rfl d_Tb_digest_61 ?_
                    refine z_iload_n 1 d_Tb_digest_64 rfl rfl ?_
                    refine z_callV0 (m_AL_get hs0 hst (hT.kA hi6) hi6 (if_pos hi6)) ym_AL_get qM_Tb_166 qI_AL_get qV_AL_AL_get zc_AL (hT.kA hi6).1 d_Tb_digest_65 rfl (Nat.le_of_ble_eq_true rfl) ⟨Nat.zero_le _, Nat.zero_le _⟩ ⟨Nat.le_of_ble_eq_true rfl, Nat.le_of_ble_eq_true rfl⟩ ?_
                    refine z_castS zc_Ke qK_Tb_77 (hT.ke hi6) d_Tb_digest_68 ?_
                    refine z_iload 0 d_Tb_digest_71 rfl ?_
                    refine z_callV0 ((m_Tb_tellOfKeeperE hs0 hst hT hi6 (nI w))) ym_Tb_tellOfKeeper qM_Tb_232 qI_Tb_tellOfKeeper qV_Tb_Tb_tellOfKeeper zc_Tb (by first | exact hT2.tb | exact hT.tb) d_Tb_digest_73 rfl (Nat.le_of_ble_eq_true rfl) ⟨Nat.zero_le _, Nat.zero_le _⟩ ⟨Nat.le_of_ble_eq_true rfl, Nat.le_of_ble_eq_true rfl⟩ ?_
                    refine z_i2l d_Tb_digest_76 rfl ?_
                    refine z_ladd d_Tb_digest_77 ?_
                    refine z_lstore_n (L' := [(1, _), (4, _), (3, _), (0, _)]) d_Tb_digest_78 rfl (by decide) rfl ?_
                    refine z_iinc (v := nI (w + 1)) (L' := [(4, _), (1, _), (3, _), (0, _)]) 1 d_Tb_digest_79 rfl (nI_1 w) (by decide) rfl ?_
                    refine z_goto 47 d_Tb_digest_82 (by decide) ?_
                    refine z_sub (L' := [(4, _), (3, _), (1, _), (0, _)]) [0, 2, 1, 3] rfl ?_
                    exact ih_47 (w + 1) (by omega) (by omega)
              exact key_47 8 0 (by omega) (by omega)
        exact key_33 (nk + 1) 0 (by omega) (by omega)
      · skip
        have hw6 : w ≤ 11 := Nat.le_of_not_lt fun q => c_9 ((nI_ltI (a := 11) (b := w) (by decide) (by omega)).mpr q)
        refine z_lload_n 1 d_Tb_digest_12 rfl rfl ?_
        refine z_ldc2 qXl_Tb_316 d_Tb_digest_13 ?_
        refine z_lmul d_Tb_digest_16 ?_
        refine z_aload_n 2 d_Tb_digest_17 rfl rfl ?_
        refine z_iload_n 0 d_Tb_digest_18 rfl rfl ?_
        refine z_callV0 ((m_Tb_tellOfBankE hs0 hst hT (nI w))) ym_Tb_tellOfBank qM_Tb_250 qI_Tb_tellOfBank qV_Tb_Tb_tellOfBank zc_Tb (by first | exact hT2.tb | exact hT.tb) d_Tb_digest_19 rfl (Nat.le_of_ble_eq_true rfl) ⟨Nat.zero_le _, Nat.zero_le _⟩ ⟨Nat.le_of_ble_eq_true rfl, Nat.le_of_ble_eq_true rfl⟩ ?_
        refine z_i2l d_Tb_digest_22 rfl ?_
        refine z_ladd d_Tb_digest_23 ?_
        refine z_lstore_n (L' := [(1, _), (3, _), (0, _)]) d_Tb_digest_24 rfl (by decide) rfl ?_
        refine z_iinc (v := nI (w + 1)) (L' := [(3, _), (1, _), (0, _)]) 1 d_Tb_digest_25 rfl (nI_1 w) (by decide) rfl ?_
        refine z_goto 6 d_Tb_digest_28 (by decide) ?_
        exact ih_6 (w + 1) (by omega) (by omega)
  exact key_6 13 0 (by omega) (by omega)
