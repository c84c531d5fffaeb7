
theorem zKo.row {V V' : Nat → Nat → Int32} (h : zKo V V') {r : Nat} (h1 : r ≠ 12) (h2 : r ≠ 14) : V' r = V r := funext fun j => h r j ⟨h1, h2⟩
/-- four numbers -/
def z4 (a b c e : Int32) : Nat → Int32 | 0 => a | 1 => b | 2 => c | _ => e
/-- the zones of a set, as a set -/
def zzo (set : Int32) (zo : Nat → Int32) : Nat → Int32
  | 0 => nI 0
  | n + 1 => if zbt set n = true then zzo set zo n ||| (1 <<< (zo n &&& 31)) else zzo set zo n
theorem zzo_t {set : Int32} {zo : Nat → Int32} {n : Nat} (h : zbt set n = true) : zzo set zo n ||| (1 <<< (zo n &&& 31)) = zzo set zo (n + 1) := (if_pos h).symm
theorem zzo_f {set : Int32} {zo : Nat → Int32} {n : Nat} (h : zbt set n = false) : zzo set zo n = zzo set zo (n + 1) := (if_neg (by rw [h]; decide)).symm
/-- lawful: the zones, the day, the courts -/
def zlwf (zn z dy dt fr : Int32) : Bool := decide (z ≤ zn) && (decide (dt ≤ dy) && decide (fr = 0))
theorem zlwf_1 {zn z dy dt fr : Int32} (h : zn < z) : zlwf zn z dy dt fr = false := by
  unfold zlwf; rw [decide_eq_false (Int32.not_le.mpr h)]; rfl
theorem zlwf_2 {zn z dy dt fr : Int32} (h : dy < dt) : zlwf zn z dy dt fr = false := by
  unfold zlwf; rw [decide_eq_false (p := dt ≤ dy) (Int32.not_le.mpr h), Bool.false_and, Bool.and_false]
theorem zlwf_3 {zn z dy dt fr : Int32} (h : ¬ fr = 0) : zlwf zn z dy dt fr = false := by
  unfold zlwf; rw [decide_eq_false (p := fr = 0) h, Bool.and_false, Bool.and_false]
theorem zlwf_t {zn z dy dt fr : Int32} (h : ¬ zn < z) (h2 : ¬ dy < dt) (h3 : fr = 0) : zlwf zn z dy dt fr = true := by
  unfold zlwf; rw [decide_eq_true (Int32.not_lt.mp h), decide_eq_true (p := dt ≤ dy) (Int32.not_lt.mp h2), decide_eq_true (p := fr = 0) h3]; rfl
/-- there is one among the first n -/
def zany (f : Nat → Bool) : Nat → Bool
  | 0 => false
  | n + 1 => zany f n || f n
theorem zany_t {f : Nat → Bool} {i : Nat} (h : f i = true) : ∀ n, i < n → zany f n = true
  | 0, h0 => absurd h0 (Nat.not_lt_zero _)
  | n + 1, h0 => by
    show (zany f n || f n) = true
    by_cases e : i = n
    · subst e; rw [h, Bool.or_true]
    · rw [zany_t h n (by omega)]; rfl
theorem zany_f {f : Nat → Bool} {n : Nat} (h : zany f n = false) (h2 : f n = false) : zany f (n + 1) = false := by
  show (zany f n || f n) = false
  rw [h, h2]; rfl
/-- who is in the group of a set -/
def zgf (V : Nat → Nat → Int32) (si : Nat) (set : Int32) (k : Nat) : Bool := zbt set k && zcur (V (400 + si)) (V (200 + si) 3) k
/-- the group laid for the first i keepers -/
def zGa (V V' : Nat → Nat → Int32) (si : Nat) (set : Int32) (i : Nat) : Prop := V' 12 = z4 (V (200 + si) 0) (zset (zgp (zgf V si set)) (i + 1)) 0 0 ∧ (∀ k, k < i → zgf V si set k = true → V' 14 (k + 1) = zfm (V (300 + si) k + V (100 + k) 4)) ∧ zKo V V'
section ZGA
variable {d : zD} {A : Nat → Nat} {D : Nat → UInt64} {V V2 : Nat → Nat → Int32} {nk ns : Nat} {G : zG} {si i : Nat} {set : Int32}
theorem zT.putgE (h : zT d A D V nk ns G) (o b a : Int32) {p : Int32} (hp : ∃ q, q < 512 ∧ p = nI q) : zT d A D (rset V 12 (z4 o p b a)) nk ns (zu G (A 12) (zgh (A 13) (A 14) o p b a)) ∧ tFr A nk ns G (zu G (A 12) (zgh (A 13) (A 14) o p b a)) :=
  ⟨h.put (tl_s 12) (z4 o p b a) rfl rfl (h.2.grp hp), zT.frput (tl_s 12) rfl⟩
theorem zT.giveE (h : zT d A D V nk ns G) {k : Nat} (hk : k < 9) (x : Int32) : zT d A D (rset (rset V 14 (upd (V 14) k (zfm x))) 12 (z4 (V 12 0) (V 12 1 ||| (1 <<< (nI k &&& 31))) (V 12 2) (V 12 3))) nk ns (zu (zu G (A 14) (zI d 9 (upd (V 14) k (zfm x)))) (A 12) (zgh (A 13) (A 14) (V 12 0) (V 12 1 ||| (1 <<< (nI k &&& 31))) (V 12 2) (V 12 3))) ∧ tFr A nk ns G (zu (zu G (A 14) (zI d 9 (upd (V 14) k (zfm x)))) (A 12) (zgh (A 13) (A 14) (V 12 0) (V 12 1 ||| (1 <<< (nI k &&& 31))) (V 12 2) (V 12 3))) := by
  have h1 := h.put (tl_s 14) (upd (V 14) k (zfm x)) rfl rfl (h.2.off (by decide) (by decide) (by decide))
  obtain ⟨q, hq, e⟩ := h.2.2.2.1
  have h2 := h1.put (tl_s 12) (z4 (V 12 0) (V 12 1 ||| (1 <<< (nI k &&& 31))) (V 12 2) (V 12 3)) rfl rfl (h1.2.grp ⟨_, (zor_lt q hq k hk).2, by show V 12 1 ||| _ = _; rw [e]; exact (zor_lt q hq k hk).1⟩)
  exact ⟨h2, (zT.frput (tl_s 14) rfl).tr (zT.frput (tl_s 12) rfl)⟩
theorem zGa.z : zGa V (rset V 12 (z4 (V (200 + si) 0) 0 0 0)) si set 0 :=
  ⟨rset_s, fun k hk => absurd hk (Nat.not_lt_zero _), zKo.off (Or.inl rfl)⟩
theorem zGa.skip (h : zGa V V2 si set i) (hf : zgf V si set i = false) : zGa V V2 si set (i + 1) := by
  obtain ⟨h1, h2, h3⟩ := h
  refine ⟨h1.trans ?_, fun k hk hk2 => ?_, h3⟩
  · rw [zset_f' (f := zgp (zgf V si set)) (n := i + 1) hf]
  · by_cases e : k = i
    · subst e; rw [hf] at hk2; cases hk2
    · exact h2 k (by omega) hk2
theorem zGa.give (h : zGa V V2 si set i) (hf : zgf V si set i = true) : zGa V (rset (rset V2 14 (upd (V2 14) (i + 1) (zfm (V2 (300 + si) i + V2 (100 + i) 4)))) 12 (z4 (V2 12 0) (V2 12 1 ||| (1 <<< (nI (i + 1) &&& 31))) (V2 12 2) (V2 12 3))) si set (i + 1) := by
  obtain ⟨h1, h2, h3⟩ := h
  refine ⟨?_, fun k hk hk2 => ?_, (h3.tr (zKo.off (Or.inr rfl))).tr (zKo.off (Or.inl rfl))⟩
  · rw [rset_s, h1]
    show z4 (V (200 + si) 0) (zset (zgp (zgf V si set)) (i + 1) ||| (1 <<< (nI (i + 1) &&& 31))) 0 0 = _
    rw [zset_t' (f := zgp (zgf V si set)) (n := i + 1) hf]
  · rw [rset_n (by decide), rset_s]
    by_cases e : k = i
    · subst e
      rw [pk_us, h3.row (by omega) (by omega), h3.row (by omega) (by omega)]
    · rw [pk_un (by omega)]
      exact h2 k (by omega) hk2
end ZGA

set_option maxHeartbeats 4000000 in
set_option maxRecDepth 100000 in
theorem m_Tb_zonesOfE {g0 : State} {d : zD} {l : Launch} {a0 : Array Value} (hs0 : zS0 d a0 g0) (hst : l.stackTraces = false) {G : zG} {A : Nat → Nat} {D : Nat → UInt64} {V : Nat → Nat → Int32} {nk ns : Nat} (hT : zT d A D V nk ns G) (set : Int32) : zMet g0 d l y_Tb_zonesOf c_Tb_zonesOf 4 ((Option.some Jvm.ClassFile.FieldType.int)) 11 0 0 [.ref (A 0), .int set] (G) (zEq (some (.int (zbc (zzo set (fun k => V (100 + k) 1) nk)))) G) (zNo) := by
  have hG_Tb := hT.tb
  have hnk : nk ≤ 8 := hT.2.1
  have hns : ns ≤ 6 := hT.2.2.1
  refine z_entry hs0 hst (by decide) (Nat.le_of_ble_eq_true rfl) (fun p e s m args below meth c => ?_)
  refine z_iconst (v := 0) d_Tb_zonesOf_0 (by decide) ?_
  refine z_istore_n (L' := [(2, _), (0, _), (1, _)]) d_Tb_zonesOf_1 rfl (by decide) rfl ?_
  refine z_iconst (v := (nI 0)) d_Tb_zonesOf_2 (by decide) ?_
  refine z_istore_n (L' := [(3, _), (2, _), (0, _), (1, _)]) d_Tb_zonesOf_3 rfl (by decide) rfl ?_
  have key_4 : ∀ (n : Nat) (i : Nat), nk - i < n → (i ≤ nk) → Z g0 d y_Tb_zonesOf c_Tb_zonesOf 4 ((Option.some Jvm.ClassFile.FieldType.int)) [] p l e (zR 11 0 0) s m args below meth c (vx_MQ below (zQc g0 d (zEq (some (.int (zbc (zzo set (fun k => V (100 + k) 1) nk)))) G)) (zXc g0 d (zNo)) args s 0 0 (zA g0)) 0 0 (G) [(3, .int (nI i)), (2, .int (zzo set (fun k => V (100 + k) 1) i)), (0, .ref (A 0)), (1, .int set)] [] 4 := by
    intro n
    induction n with
    | zero => intro i h0; exact absurd h0 (Nat.not_lt_zero _)
    | succ n ih_4 =>
      intro i hm_4 hi
      refine z_iload_n 0 d_Tb_zonesOf_4 rfl rfl ?_
      refine z_aload_n 2 d_Tb_zonesOf_5 rfl rfl ?_
      refine z_get zc_Tb 0 (by decide) qF_Tb_10 hG_Tb rfl d_Tb_zonesOf_6 ?_
      refine z_callV0 (m_AL_size hs0 hst hT.kl) ym_AL_size qM_Tb_68 qI_AL_size qV_AL_AL_size zc_AL hT.kl d_Tb_zonesOf_9 rfl (Nat.le_of_ble_eq_true rfl) ⟨Nat.zero_le _, Nat.zero_le _⟩ ⟨Nat.le_of_ble_eq_true rfl, Nat.le_of_ble_eq_true rfl⟩ ?_
      refine z_icmp_ge 48 d_Tb_zonesOf_12 (by decide) (fun c_12 => ?_) (fun c_12 => ?_)
      · skip
        obtain rfl : i = nk := by
          have := (nI_leI (a := nk) (b := i) (by omega) (by omega)).mp c_12
          omega
        refine z_iload_n 1 d_Tb_zonesOf_48 rfl rfl ?_
        refine z_callS0 (m_In_bitCount hs0 hst _) ym_In_bitCount qM_Tb_105 qS_In_bitCount d_Tb_zonesOf_49 rfl (Nat.le_of_ble_eq_true rfl) ⟨Nat.zero_le _, Nat.zero_le _⟩ ⟨Nat.le_of_ble_eq_true rfl, Nat.le_of_ble_eq_true rfl⟩ ?_
        exact z_iret rfl (⟨rfl, rfl⟩) (by first | decide | omega) (by first | decide | omega) d_Tb_zonesOf_52
      · skip
        have hi6 : i < nk := Nat.lt_of_not_le fun q => c_12 (nI_le q (by omega))
        refine z_iload_n 3 d_Tb_zonesOf_15 rfl rfl ?_
        refine z_iload_n 0 d_Tb_zonesOf_16 rfl rfl ?_
        refine z_callS0 (m_Tb_isIn hs0 hst set (nI i)) ym_Tb_isIn qM_Tb_124 qS_Tb_isIn d_Tb_zonesOf_17 rfl (Nat.le_of_ble_eq_true rfl) ⟨Nat.zero_le _, Nat.zero_le _⟩ ⟨Nat.le_of_ble_eq_true rfl, Nat.le_of_ble_eq_true rfl⟩ ?_
        refine z_if_eq 42 d_Tb_zonesOf_20 (by decide) (fun c_20 => ?_) (fun c_20 => ?_)
        · skip
          rw [zzo_f (zo := (fun k => V (100 + k) 1)) (show zbt set i = false from (zb_0 _).mp c_20)]
          refine z_iinc (v := nI (i + 1)) (L' := [(3, _), (2, _), (0, _), (1, _)]) 0 d_Tb_zonesOf_42 rfl (nI_1 i) (by decide) rfl ?_
          refine z_goto 4 d_Tb_zonesOf_45 (by decide) ?_
          exact ih_4 (i + 1) (by omega) (by omega)
        · skip
          refine z_iload_n 1 d_Tb_zonesOf_23 rfl rfl ?_
          refine z_iconst (v := 1) d_Tb_zonesOf_24 (by decide) ?_
          refine z_aload_n 2 d_Tb_zonesOf_25 rfl rfl ?_
          refine z_get zc_Tb 0 (by decide) qF_Tb_10 hG_Tb rfl d_Tb_zonesOf_26 ?_
          refine z_iload_n 0 d_Tb_zonesOf_29 rfl rfl ?_
          refine z_callV0 (m_AL_get hs0 hst (hT.kA hi6) hi6 (if_pos hi6)) ym_AL_get qM_Tb_166 qI_AL_get qV_AL_AL_get zc_AL (hT.kA hi6).1 d_Tb_zonesOf_30 rfl (Nat.le_of_ble_eq_true rfl) ⟨Nat.zero_le _, Nat.zero_le _⟩ ⟨Nat.le_of_ble_eq_true rfl, Nat.le_of_ble_eq_true rfl⟩ ?_
          refine z_castS zc_Ke qK_Tb_77 (hT.ke hi6) d_Tb_zonesOf_33 ?_
          refine z_get zc_Ke 1 (by decide) qF_Tb_170 (hT.ke hi6) rfl d_Tb_zonesOf_36 ?_
          refine z_ishl d_Tb_zonesOf_39 ?_
          refine z_ior d_Tb_zonesOf_40 ?_
          refine z_topv (zzo_t (zo := (fun k => V (100 + k) 1)) (show zbt set i = true from (zb_n0 _).mp c_20)) ?_
          refine z_istore_n (L' := [(2, _), (3, _), (0, _), (1, _)]) d_Tb_zonesOf_41 rfl (by decide) rfl ?_
          refine z_iinc (v := nI (i + 1)) (L' := [(3, _), (2, _), (0, _), (1, _)]) 1 d_Tb_zonesOf_42 rfl (nI_1 i) (by decide) rfl ?_
          refine z_goto 4 d_Tb_zonesOf_45 (by decide) ?_
          exact ih_4 (i + 1) (by omega) (by omega)
  exact key_4 (nk + 1) 0 (by omega) (by omega)
set_option maxHeartbeats 4000000 in
set_option maxRecDepth 100000 in
theorem m_Tb_isLawfulE {g0 : State} {d : zD} {l : Launch} {a0 : Array Value} (hs0 : zS0 d a0 g0) (hst : l.stackTraces = false) {G : zG} {A : Nat → Nat} {D : Nat → UInt64} {V : Nat → Nat → Int32} {nk ns : Nat} (hT : zT d A D V nk ns G) {h hs he : Nat} {t z dt : Int32} {sh ep : Nat → Int32} {epo fr bl : Int32} (hS : zSe d h hs he t z dt sh ep epo fr bl G) (set : Int32) : zMet g0 d l y_Tb_isLawful c_Tb_isLawful 3 ((Option.some Jvm.ClassFile.FieldType.boolean)) 12 0 0 [.ref (A 0), .ref h, .int set] (G) (zEq (some (.int (zb (zlwf (zbc (zzo set (fun k => V (100 + k) 1) nk)) z (V 0 0) dt fr)))) G) (zNo) := by
  have hG_Tb := hT.tb
  have hnk : nk ≤ 8 := hT.2.1
  have hns : ns ≤ 6 := hT.2.2.1
  obtain ⟨hG_Se, hG_s, hG_e, hne⟩ := id hS
  refine z_entry hs0 hst (by decide) (Nat.le_of_ble_eq_true rfl) (fun p e s m args below meth c => ?_)
  refine z_aload_n 0 d_Tb_isLawful_0 rfl rfl ?_
  refine z_iload_n 2 d_Tb_isLawful_1 rfl rfl ?_
  refine z_callV0 ((m_Tb_zonesOfE hs0 hst hT set)) ym_Tb_zonesOf qM_Tb_354 qI_Tb_zonesOf qV_Tb_Tb_zonesOf zc_Tb hG_Tb d_Tb_isLawful_2 rfl (Nat.le_of_ble_eq_true rfl) ⟨Nat.zero_le _, Nat.zero_le _⟩ ⟨Nat.le_of_ble_eq_true rfl, Nat.le_of_ble_eq_true rfl⟩ ?_
  refine z_aload_n 1 d_Tb_isLawful_5 rfl rfl ?_
  refine z_get zc_Se 1 (by decide) qF_Tb_357 hG_Se rfl d_Tb_isLawful_6 ?_
  refine z_icmp_lt 34 d_Tb_isLawful_9 (by decide) (fun c_9 => ?_) (fun c_9 => ?_)
  · skip
    refine z_iconst (v := 0) d_Tb_isLawful_34 (by decide) ?_
    exact z_zret rfl (by first | rfl | exact zb_nar _) (⟨by first | rw [zlwf_1 c_9] <;> rfl | rw [zlwf_2 c_20] <;> rfl | rw [zlwf_3 c_27] <;> rfl | rw [zlwf_t c_9 c_20 c_27] <;> rfl, rfl⟩) (by first | decide | omega) (by first | decide | omega) d_Tb_isLawful_35
  · skip
    refine z_aload_n 0 d_Tb_isLawful_12 rfl rfl ?_
    refine z_get zc_Tb 6 (by decide) qF_Tb_44 hG_Tb rfl d_Tb_isLawful_13 ?_
    refine z_aload_n 1 d_Tb_isLawful_16 rfl rfl ?_
    refine z_get zc_Se 2 (by decide) qF_Tb_360 hG_Se rfl d_Tb_isLawful_17 ?_
    refine z_icmp_lt 34 d_Tb_isLawful_20 (by decide) (fun c_20 => ?_) (fun c_20 => ?_)
    · skip
      refine z_iconst (v := 0) d_Tb_isLawful_34 (by decide) ?_
      exact z_zret rfl (by first | rfl | exact zb_nar _) (⟨by first | rw [zlwf_1 c_9] <;> rfl | rw [zlwf_2 c_20] <;> rfl | rw [zlwf_3 c_27] <;> rfl | rw [zlwf_t c_9 c_20 c_27] <;> rfl, rfl⟩) (by first | decide | omega) (by first | decide | omega) d_Tb_isLawful_35
    · skip
      refine z_aload_n 1 d_Tb_isLawful_23 rfl rfl ?_
      refine z_get zc_Se 6 (by decide) qF_Tb_213 hG_Se rfl d_Tb_isLawful_24 ?_
      refine z_if_ne 34 d_Tb_isLawful_27 (by decide) (fun c_27 => ?_) (fun c_27 => ?_)
      · skip
        refine z_iconst (v := 0) d_Tb_isLawful_34 (by decide) ?_
        exact z_zret rfl (by first | rfl | exact zb_nar _) (⟨by first | rw [zlwf_1 c_9] <;> rfl | rw [zlwf_2 c_20] <;> rfl | rw [zlwf_3 c_27] <;> rfl | rw [zlwf_t c_9 c_20 c_27] <;> rfl, rfl⟩) (by first | decide | omega) (by first | decide | omega) d_Tb_isLawful_35
      · skip
        refine z_iconst (v := 1) d_Tb_isLawful_30 (by decide) ?_
        refine z_goto 35 d_Tb_isLawful_31 (by decide) ?_
        exact z_zret rfl (by first | rfl | exact zb_nar _) (⟨by first | rw [zlwf_1 c_9] <;> rfl | rw [zlwf_2 c_20] <;> rfl | rw [zlwf_3 c_27] <;> rfl | rw [zlwf_t c_9 c_20 c_27] <;> rfl, rfl⟩) (by first | decide | omega) (by first | decide | omega) d_Tb_isLawful_35
set_option maxHeartbeats 4000000 in
set_option maxRecDepth 100000 in
theorem m_Tb_isAnyLyingE {g0 : State} {d : zD} {l : Launch} {a0 : Array Value} (hs0 : zS0 d a0 g0) (hst : l.stackTraces = false) {G : zG} {A : Nat → Nat} {D : Nat → UInt64} {V : Nat → Nat → Int32} {nk ns : Nat} (hT : zT d A D V nk ns G) (set : Int32) : zMet g0 d l y_Tb_isAnyLying c_Tb_isAnyLying 3 ((Option.some Jvm.ClassFile.FieldType.boolean)) 11 0 0 [.ref (A 0), .int set] (G) (zEq (some (.int (zb (zany (fun k => zbt set k && decide (V (100 + k) 4 ≠ 0)) nk)))) G) (zNo) := by
  have hG_Tb := hT.tb
  have hnk : nk ≤ 8 := hT.2.1
  have hns : ns ≤ 6 := hT.2.2.1
  refine z_entry hs0 hst (by decide) (Nat.le_of_ble_eq_true rfl) (fun p e s m args below meth c => ?_)
  refine z_iconst (v := (nI 0)) d_Tb_isAnyLying_0 (by decide) ?_
  refine z_istore_n (L' := [(2, _), (0, _), (1, _)]) d_Tb_isAnyLying_1 rfl (by decide) rfl ?_
  have key_2 : ∀ (n : Nat) (i : Nat), nk - i < n → (i ≤ nk) → (zany (fun k => zbt set k && decide (V (100 + k) 4 ≠ 0)) i = false) → Z g0 d y_Tb_isAnyLying c_Tb_isAnyLying 3 ((Option.some Jvm.ClassFile.FieldType.boolean)) [] p l e (zR 11 0 0) s m args below meth c (vx_MQ below (zQc g0 d (zEq (some (.int (zb (zany (fun k => zbt set k && decide (V (100 + k) 4 ≠ 0)) nk)))) G)) (zXc g0 d (zNo)) args s 0 0 (zA g0)) 0 0 (G) [(2, .int (nI i)), (0, .ref (A 0)), (1, .int set)] [] 2 := by
    intro n
    induction n with
    | zero => intro i h0; exact absurd h0 (Nat.not_lt_zero _)
    | succ n ih_2 =>
      intro i hm_2 hi hz
      refine z_iload_n 0 d_Tb_isAnyLying_2 rfl rfl ?_
      refine z_aload_n 1 d_Tb_isAnyLying_3 rfl rfl ?_
      refine z_get zc_Tb 0 (by decide) qF_Tb_10 hG_Tb rfl d_Tb_isAnyLying_4 ?_
      refine z_callV0 (m_AL_size hs0 hst hT.kl) ym_AL_size qM_Tb_68 qI_AL_size qV_AL_AL_size zc_AL hT.kl d_Tb_isAnyLying_7 rfl (Nat.le_of_ble_eq_true rfl) ⟨Nat.zero_le _, Nat.zero_le _⟩ ⟨Nat.le_of_ble_eq_true rfl, Nat.le_of_ble_eq_true rfl⟩ ?_
      refine z_icmp_ge 46 d_Tb_isAnyLying_10 (by decide) (fun c_10 => ?_) (fun c_10 => ?_)
      · skip
        obtain rfl : i = nk := by
          have := (nI_leI (a := nk) (b := i) (by omega) (by omega)).mp c_10
          omega
        refine z_iconst (v := 0) d_Tb_isAnyLying_46 (by decide) ?_
        exact z_zret rfl (by first | rfl | exact zb_nar _) (⟨by rw [hz]; rfl, rfl⟩) (by first | decide | omega) (by first | decide | omega) d_Tb_isAnyLying_47
      · skip
        have hi6 : i < nk := Nat.lt_of_not_le fun q => c_10 (nI_le q (by omega))
        refine z_iload_n 2 d_Tb_isAnyLying_13 rfl rfl ?_
        refine z_iload_n 0 d_Tb_isAnyLying_14 rfl rfl ?_
        refine z_callS0 (m_Tb_isIn hs0 hst set (nI i)) ym_Tb_isIn qM_Tb_124 qS_Tb_isIn d_Tb_isAnyLying_15 rfl (Nat.le_of_ble_eq_true rfl) ⟨Nat.zero_le _, Nat.zero_le _⟩ ⟨Nat.le_of_ble_eq_true rfl, Nat.le_of_ble_eq_true rfl⟩ ?_
        refine z_if_eq 40 d_Tb_isAnyLying_18 (by decide) (fun c_18 => ?_) (fun c_18 => ?_)
        · skip
          have hz2 : zany (fun k => zbt set k && decide (V (100 + k) 4 ≠ 0)) (i + 1) = false := zany_f hz (by show (zbt set i && _) = false; rw [show zbt set i = false from (zb_0 _).mp c_18, Bool.false_and])
          refine z_iinc (v := nI (i + 1)) (L' := [(2, _), (0, _), (1, _)]) 0 d_Tb_isAnyLying_40 rfl (nI_1 i) (by decide) rfl ?_
          refine z_goto 2 d_Tb_isAnyLying_43 (by decide) ?_
          exact ih_2 (i + 1) (by omega) (by omega) hz2
        · skip
          refine z_aload_n 1 d_Tb_isAnyLying_21 rfl rfl ?_
          refine z_get zc_Tb 0 (by decide) qF_Tb_10 hG_Tb rfl d_Tb_isAnyLying_22 ?_
          refine z_iload_n 0 d_Tb_isAnyLying_25 rfl rfl ?_
          refine z_callV0 (m_AL_get hs0 hst (hT.kA hi6) hi6 (if_pos hi6)) ym_AL_get qM_Tb_166 qI_AL_get qV_AL_AL_get zc_AL (hT.kA hi6).1 d_Tb_isAnyLying_26 rfl (Nat.le_of_ble_eq_true rfl) ⟨Nat.zero_le _, Nat.zero_le _⟩ ⟨Nat.le_of_ble_eq_true rfl, Nat.le_of_ble_eq_true rfl⟩ ?_
          refine z_castS zc_Ke qK_Tb_77 (hT.ke hi6) d_Tb_isAnyLying_29 ?_
          refine z_get zc_Ke 4 (by decide) qF_Tb_96 (hT.ke hi6) rfl d_Tb_isAnyLying_32 ?_
          refine z_if_eq 40 d_Tb_isAnyLying_35 (by decide) (fun c_35 => ?_) (fun c_35 => ?_)
          · skip
            have hz2 : zany (fun k => zbt set k && decide (V (100 + k) 4 ≠ 0)) (i + 1) = false := zany_f hz (by show (_ && decide (V (100 + i) 4 ≠ 0)) = false; rw [decide_eq_false (p := V (100 + i) 4 ≠ 0) (fun q => q c_35), Bool.and_false])
            refine z_iinc (v := nI (i + 1)) (L' := [(2, _), (0, _), (1, _)]) 0 d_Tb_isAnyLying_40 rfl (nI_1 i) (by decide) rfl ?_
            refine z_goto 2 d_Tb_isAnyLying_43 (by decide) ?_
            exact ih_2 (i + 1) (by omega) (by omega) hz2
          · skip
            refine z_iconst (v := 1) d_Tb_isAnyLying_38 (by decide) ?_
            exact z_zret rfl (by first | rfl | exact zb_nar _) (⟨by rw [zany_t (f := (fun k => zbt set k && decide (V (100 + k) 4 ≠ 0))) (i := i) (by show (zbt set i && decide (V (100 + i) 4 ≠ 0)) = true; rw [show zbt set i = true from (zb_n0 _).mp c_18, decide_eq_true (p := V (100 + i) 4 ≠ 0) c_35]; rfl) nk hi6]; rfl, rfl⟩) (by first | decide | omega) (by first | decide | omega) d_Tb_isAnyLying_39
  exact key_2 (nk + 1) 0 (by omega) (by omega) rfl
set_option maxHeartbeats 4000000 in
set_option maxRecDepth 100000 in
theorem m_Tb_gatherGroupE {g0 : State} {d : zD} {l : Launch} {a0 : Array Value} (hs0 : zS0 d a0 g0) (hst : l.stackTraces = false) {G : zG} {A : Nat → Nat} {D : Nat → UInt64} {V : Nat → Nat → Int32} {nk ns : Nat} (hT : zT d A D V nk ns G) {si : Nat} (hsi : si < ns) (set : Int32) : zMet g0 d l y_Tb_gatherGroup c_Tb_gatherGroup 4 ((Option.none : Option Jvm.ClassFile.FieldType)) 11 0 0 [.ref (A 0), .ref (A (200 + si)), .int set] (G) (fun r G1 => r = none ∧ ∃ V', zT d A D V' nk ns G1 ∧ zGa V V' si set nk ∧ tFr A nk ns G G1) (zNo) := by
  have hG_Tb := hT.tb
  have hnk : nk ≤ 8 := hT.2.1
  have hns : ns ≤ 6 := hT.2.2.1
  refine z_entry hs0 hst (by decide) (Nat.le_of_ble_eq_true rfl) (fun p e s m args below meth c => ?_)
  refine z_aload_n 0 d_Tb_gatherGroup_0 rfl rfl ?_
  refine z_get zc_Tb 4 (by decide) qF_Tb_36 hT.tb rfl d_Tb_gatherGroup_1 ?_
  refine z_aload_n 1 d_Tb_gatherGroup_4 rfl rfl ?_
  refine z_get zc_Se 0 (by decide) qF_Tb_147 (hT.se hsi).1 rfl d_Tb_gatherGroup_5 ?_
  refine z_callVp0 (m_Gr_begin hs0 hst hT.gA _) ym_Gr_begin qM_Tb_351 qI_Gr_begin qV_Gr_Gr_begin zc_Gr hT.gr d_Tb_gatherGroup_8 rfl (Nat.le_of_ble_eq_true rfl) ⟨Nat.zero_le _, Nat.zero_le _⟩ ⟨Nat.le_of_ble_eq_true rfl, Nat.le_of_ble_eq_true rfl⟩ (fun r_8 G_8 hp_8 => ?_)
  obtain ⟨hr_8, hg_8⟩ := hp_8
  obtain rfl : r_8 = none := hr_8
  obtain ⟨hT1, hF1⟩ := hT.putgE (V (200 + si) 0) 0 0 (p := 0) ⟨0, by decide, nI_0.symm⟩
  rw [← hg_8] at hT1 hF1
  refine z_iconst (v := (nI 0)) d_Tb_gatherGroup_11 (by decide) ?_
  refine z_istore_n (L' := [(3, _), (0, _), (1, _), (2, _)]) d_Tb_gatherGroup_12 rfl (by decide) rfl ?_
  have key_13 : ∀ (n : Nat) (i : Nat) (G2 : zG) (V2 : Nat → Nat → Int32), nk - i < n → (i ≤ nk) → (zT d A D V2 nk ns G2) → (zGa V V2 si set i) → (tFr A nk ns G G2) → Z g0 d y_Tb_gatherGroup c_Tb_gatherGroup 4 ((Option.none : Option Jvm.ClassFile.FieldType)) [] p l e (zR 11 0 0) s m args below meth c (vx_MQ below (zQc g0 d (fun r G1 => r = none ∧ ∃ V', zT d A D V' nk ns G1 ∧ zGa V V' si set nk ∧ tFr A nk ns G G1)) (zXc g0 d (zNo)) args s 0 0 (zA g0)) 0 0 (G2) [(3, .int (nI i)), (0, .ref (A 0)), (1, .ref (A (200 + si))), (2, .int set)] [] 13 := by
    intro n
    induction n with
    | zero => intro i G2 V2 h0; exact absurd h0 (Nat.not_lt_zero _)
    | succ n ih_13 =>
      intro i G2 V2 hm_13 hi hT2 hK2 hF2
      refine z_iload_n 0 d_Tb_gatherGroup_13 rfl rfl ?_
      refine z_aload_n 1 d_Tb_gatherGroup_14 rfl rfl ?_
      refine z_get zc_Tb 0 (by decide) qF_Tb_10 hT2.tb rfl d_Tb_gatherGroup_15 ?_
      refine z_callV0 (m_AL_size hs0 hst hT2.kl) ym_AL_size qM_Tb_68 qI_AL_size qV_AL_AL_size zc_AL hT2.kl d_Tb_gatherGroup_18 rfl (Nat.le_of_ble_eq_true rfl) ⟨Nat.zero_le _, Nat.zero_le _⟩ ⟨Nat.le_of_ble_eq_true rfl, Nat.le_of_ble_eq_true rfl⟩ ?_
      refine z_icmp_ge 77 d_Tb_gatherGroup_21 (by decide) (fun c_21 => ?_) (fun c_21 => ?_)
      · skip
        obtain rfl : i = nk := by
          have := (nI_leI (a := nk) (b := i) (by omega) (by omega)).mp c_21
          omega
        exact z_vret rfl (⟨rfl, V2, hT2, hK2, hF2⟩) (by first | decide | omega) (by first | decide | omega) d_Tb_gatherGroup_77
      · skip
        have hi6 : i < nk := Nat.lt_of_not_le fun q => c_21 (nI_le q (by omega))
        refine z_iload_n 3 d_Tb_gatherGroup_24 rfl rfl ?_
        refine z_iload_n 0 d_Tb_gatherGroup_25 rfl rfl ?_
        refine z_callS0 (m_Tb_isIn hs0 hst set (nI i)) ym_Tb_isIn qM_Tb_124 qS_Tb_isIn d_Tb_gatherGroup_26 rfl (Nat.le_of_ble_eq_true rfl) ⟨Nat.zero_le _, Nat.zero_le _⟩ ⟨Nat.le_of_ble_eq_true rfl, Nat.le_of_ble_eq_true rfl⟩ ?_
        refine z_if_eq 71 d_Tb_gatherGroup_29 (by decide) (fun c_29 => ?_) (fun c_29 => ?_)
        · skip
          have hf2 : zgf V si set i = false := by unfold zgf; rw [show zbt set i = false from (zb_0 _).mp c_29, Bool.false_and]
          refine z_iinc (v := nI (i + 1)) (L' := [(3, _), (0, _), (1, _), (2, _)]) 0 d_Tb_gatherGroup_71 rfl (nI_1 i) (by decide) rfl ?_
          refine z_goto 13 d_Tb_gatherGroup_74 (by decide) ?_
          first
            | exact ih_13 (i + 1) _ _ (by omega) (by omega) hT3 (hK2.give hf3) (hF2.tr hF3)
            | exact ih_13 (i + 1) _ _ (by omega) (by omega) hT2 (hK2.skip hf2) hF2
        · skip
          refine z_aload_n 2 d_Tb_gatherGroup_32 rfl rfl ?_
          refine z_iload_n 0 d_Tb_gatherGroup_33 rfl rfl ?_
          refine z_callV0 (m_Se_isCurrent hs0 hst (hT2.se hsi) (show i < 8 by omega)) ym_Se_isCurrent qM_Tb_179 qI_Se_isCurrent qV_Se_Se_isCurrent zc_Se (hT2.se hsi).1 d_Tb_gatherGroup_34 rfl (Nat.le_of_ble_eq_true rfl) ⟨Nat.zero_le _, Nat.zero_le _⟩ ⟨Nat.le_of_ble_eq_true rfl, Nat.le_of_ble_eq_true rfl⟩ ?_
          refine z_if_eq 71 d_Tb_gatherGroup_37 (by decide) (fun c_37 => ?_) (fun c_37 => ?_)
          · skip
            have hf2 : zgf V si set i = false := by unfold zgf; rw [← hK2.2.2.row (r := 400 + si) (by omega) (by omega), ← hK2.2.2.row (r := 200 + si) (by omega) (by omega), (zb_0 _).mp c_37, Bool.and_false]
            refine z_iinc (v := nI (i + 1)) (L' := [(3, _), (0, _), (1, _), (2, _)]) 0 d_Tb_gatherGroup_71 rfl (nI_1 i) (by decide) rfl ?_
            refine z_goto 13 d_Tb_gatherGroup_74 (by decide) ?_
            first
              | exact ih_13 (i + 1) _ _ (by omega) (by omega) hT3 (hK2.give hf3) (hF2.tr hF3)
              | exact ih_13 (i + 1) _ _ (by omega) (by omega) hT2 (hK2.skip hf2) hF2
          · skip
            have hf3 : zgf V si set i = true := by unfold zgf; rw [← hK2.2.2.row (r := 400 + si) (by omega) (by omega), ← hK2.2.2.row (r := 200 + si) (by omega) (by omega), (zb_n0 _).mp c_37, show zbt set i = true from (zb_n0 _).mp c_29]; rfl
            refine z_aload_n 1 d_Tb_gatherGroup_40 rfl rfl ?_
            refine z_get zc_Tb 4 (by decide) qF_Tb_36 hT2.tb rfl d_Tb_gatherGroup_41 ?_
            refine z_iload_n 0 d_Tb_gatherGroup_44 rfl rfl ?_
            refine z_callS0 (m_Tb_pointOf hs0 hst (nI i)) ym_Tb_pointOf qM_Tb_128 qS_Tb_pointOf d_Tb_gatherGroup_45 rfl (Nat.le_of_ble_eq_true rfl) ⟨Nat.zero_le _, Nat.zero_le _⟩ ⟨Nat.le_of_ble_eq_true rfl, Nat.le_of_ble_eq_true rfl⟩ ?_
            refine z_topv (nI_1 i) ?_
            refine z_aload_n 2 d_Tb_gatherGroup_48 rfl rfl ?_
            refine z_iload_n 0 d_Tb_gatherGroup_49 rfl rfl ?_
            refine z_callV0 (m_Se_shareOf hs0 hst (hT2.se hsi) (show i < 8 by omega)) ym_Se_shareOf qM_Tb_155 qI_Se_shareOf qV_Se_Se_shareOf zc_Se (hT2.se hsi).1 d_Tb_gatherGroup_50 rfl (Nat.le_of_ble_eq_true rfl) ⟨Nat.zero_le _, Nat.zero_le _⟩ ⟨Nat.le_of_ble_eq_true rfl, Nat.le_of_ble_eq_true rfl⟩ ?_
            refine z_aload_n 1 d_Tb_gatherGroup_53 rfl rfl ?_
            refine z_get zc_Tb 0 (by decide) qF_Tb_10 hT2.tb rfl d_Tb_gatherGroup_54 ?_
            refine z_iload_n 0 d_Tb_gatherGroup_57 rfl rfl ?_
            refine z_callV0 (m_AL_get hs0 hst (hT2.kA hi6) hi6 (if_pos hi6)) ym_AL_get qM_Tb_166 qI_AL_get qV_AL_AL_get zc_AL (hT2.kA hi6).1 d_Tb_gatherGroup_58 rfl (Nat.le_of_ble_eq_true rfl) ⟨Nat.zero_le _, Nat.zero_le _⟩ ⟨Nat.le_of_ble_eq_true rfl, Nat.le_of_ble_eq_true rfl⟩ ?_
            refine z_castS zc_Ke qK_Tb_77 (hT2.ke hi6) d_Tb_gatherGroup_61 ?_
            refine z_get zc_Ke 4 (by decide) qF_Tb_96 (hT2.ke hi6) rfl d_Tb_gatherGroup_64 ?_
            refine z_iadd d_Tb_gatherGroup_67 ?_
            refine z_callVp0 (m_Gr_give hs0 hst hT2.gA (show i + 1 < 9 by omega) _) ym_Gr_give qM_Tb_288 qI_Gr_give qV_Gr_Gr_give zc_Gr hT2.gr d_Tb_gatherGroup_68 rfl (Nat.le_of_ble_eq_true rfl) ⟨Nat.zero_le _, Nat.zero_le _⟩ ⟨Nat.le_of_ble_eq_true rfl, Nat.le_of_ble_eq_true rfl⟩ (fun r_68 G_68 hp_68 => ?_)
            obtain ⟨hr_68, hg_68⟩ := hp_68
            obtain rfl : r_68 = none := hr_68
            obtain ⟨hT3, hF3⟩ := hT2.giveE (k := i + 1) (by omega) (V2 (300 + si) i + V2 (100 + i) 4)
            rw [← hg_68] at hT3 hF3
            refine z_iinc (v := nI (i + 1)) (L' := [(3, _), (0, _), (1, _), (2, _)]) 0 d_Tb_gatherGroup_71 rfl (nI_1 i) (by decide) rfl ?_
            refine z_goto 13 d_Tb_gatherGroup_74 (by decide) ?_
            first
              | exact ih_13 (i + 1) _ _ (by omega) (by omega) hT3 (hK2.give hf3) (hF2.tr hF3)
              | exact ih_13 (i + 1) _ _ (by omega) (by omega) hT2 (hK2.skip hf2) hF2
  exact key_13 (nk + 1) 0 _ _ (by omega) (by omega) hT1 zGa.z hF1

/-- noted: those of a set among the first i -/
def zNt (V V' : Nat → Nat → Int32) (set : Int32) (i : Nat) : Prop := (∀ r, ¬ (100 ≤ r ∧ r < 100 + i) → V' r = V r) ∧ ∀ k, k < i → V' (100 + k) = if zbt set k = true then (fun j => if j = 5 then 1 else V (100 + k) j) else V (100 + k)
/-- a keeper's shares lost, of the first i secrets -/
def zLo (V V' : Nat → Nat → Int32) (j i : Nat) : Prop := (∀ r, ¬ (300 ≤ r ∧ r < 300 + i) → ¬ (400 ≤ r ∧ r < 400 + i) → V' r = V r) ∧ ∀ s, s < i → V' (300 + s) = upd (V (300 + s)) j (-1) ∧ V' (400 + s) = upd (V (400 + s)) j (-1)
section ZNT
variable {d : zD} {A : Nat → Nat} {D : Nat → UInt64} {V V2 : Nat → Nat → Int32} {nk ns : Nat} {G : zG} {i j : Nat} {set : Int32}
theorem zNt.z : zNt V V set 0 := ⟨fun _ _ => rfl, fun k hk => absurd hk (Nat.not_lt_zero _)⟩
theorem zNt.skip (h : zNt V V2 set i) (hf : zbt set i = false) : zNt V V2 set (i + 1) := by
  obtain ⟨h1, h2⟩ := h
  refine ⟨fun r hr => h1 r (by omega), fun k hk => ?_⟩
  by_cases e : k = i
  · subst e; rw [if_neg (by rw [hf]; decide)]; exact h1 _ (by omega)
  · exact h2 k (by omega)
theorem zNt.note (h : zNt V V2 set i) (hf : zbt set i = true) : zNt V (rset V2 (100 + i) (fun j => if j = 5 then 1 else V2 (100 + i) j)) set (i + 1) := by
  obtain ⟨h1, h2⟩ := h
  refine ⟨fun r hr => ?_, fun k hk => ?_⟩
  · rw [rset_n (by omega)]; exact h1 r (by omega)
  · by_cases e : k = i
    · subst e; rw [rset_s, if_pos hf, h1 (100 + k) (by omega)]
    · rw [rset_n (by omega)]; exact h2 k (by omega)
theorem zT.note (h : zT d A D V nk ns G) (hi : i < nk) : zT d A D (rset V (100 + i) (fun j => if j = 5 then 1 else V (100 + i) j)) nk ns (zu G (A (100 + i)) (zob 5 [.int (V (100 + i) 0), .int (V (100 + i) 1), .int (V (100 + i) 2), .int (V (100 + i) 3), .int (V (100 + i) 4), .int 1])) ∧ tFr A nk ns G (zu G (A (100 + i)) (zob 5 [.int (V (100 + i) 0), .int (V (100 + i) 1), .int (V (100 + i) 2), .int (V (100 + i) 3), .int (V (100 + i) 4), .int 1])) := by
  have hn : nk ≤ 8 := h.2.1
  refine ⟨h.put (tlive_k hi) (fun j => if j = 5 then 1 else V (100 + i) j) rfl (tcell_k (k := i) (by omega) (fun j => if j = 5 then 1 else V (100 + i) j)).symm ?_, zT.frput (tlive_k hi) rfl⟩
  obtain ⟨a, b, c, e, f, g⟩ := h.2
  refine ⟨a, b, by rw [rset_n (by omega)]; exact c, by rw [rset_n (by omega)]; exact e, fun i hi => by rw [rset_n (by omega)]; exact f i hi, fun k hk => ?_⟩
  by_cases ek : k = i
  · subst ek; rw [rset_s]; exact g k hk
  · rw [rset_n (by omega)]; exact g k hk
theorem zLo.z : zLo V V j 0 := ⟨fun _ _ _ => rfl, fun k hk => absurd hk (Nat.not_lt_zero _)⟩
theorem zLo.lose (h : zLo V V2 j i) (hi : i < 6) : zLo V (rset (rset V2 (300 + i) (upd (V2 (300 + i)) j (-1))) (400 + i) (upd (V2 (400 + i)) j (-1))) j (i + 1) := by
  obtain ⟨h1, h2⟩ := h
  refine ⟨fun r hr hr2 => ?_, fun k hk => ?_⟩
  · rw [rset_n (by omega), rset_n (by omega)]; exact h1 r (by omega) (by omega)
  · by_cases e : k = i
    · subst e
      rw [rset_n (by omega), rset_s, rset_s, h1 (300 + k) (by omega) (by omega), h1 (400 + k) (by omega) (by omega)]
      exact ⟨rfl, rfl⟩
    · rw [rset_n (by omega), rset_n (by omega), rset_n (by omega), rset_n (by omega)]
      exact h2 k (by omega)
/-- a secret's shares and epochs are written -/
theorem zT.secE (h : zT d A D V nk ns G) (hi : i < ns) (u w : Nat → Int32) : zT d A D (rset (rset V (300 + i) u) (400 + i) w) nk ns (zu (zu G (A (300 + i)) (zI d 8 u)) (A (400 + i)) (zI d 8 w)) ∧ tFr A nk ns G (zu (zu G (A (300 + i)) (zI d 8 u)) (A (400 + i)) (zI d 8 w)) := by
  have h1 := h.put (tlive_sh hi) u rfl (tcell_a (by omega) u).symm (h.2.off (by omega) (by omega) (Or.inr (by omega)))
  have h2 := h1.put (tlive_ep hi) w rfl (tcell_a (by omega) w).symm (h1.2.off (by omega) (by omega) (Or.inr (by omega)))
  exact ⟨h2, (zT.frput (tlive_sh hi) rfl).tr (zT.frput (tlive_ep hi) rfl)⟩
end ZNT

theorem d_Tb_noteAll_0 : decode c_Tb_noteAll 0 = .ok (.iconst 0, 1) := by decide +kernel
theorem d_Tb_noteAll_1 : decode c_Tb_noteAll 1 = .ok (.istore_n 2, 1) := by decide +kernel
theorem d_Tb_noteAll_2 : decode c_Tb_noteAll 2 = .ok (.iload_n 2, 1) := by decide +kernel
theorem d_Tb_noteAll_3 : decode c_Tb_noteAll 3 = .ok (.aload_n 0, 1) := by decide +kernel
theorem d_Tb_noteAll_4 : decode c_Tb_noteAll 4 = .ok (.getfield 10, 3) := by decide +kernel
theorem d_Tb_noteAll_7 : decode c_Tb_noteAll 7 = .ok (.invokevirtual 68, 3) := by decide +kernel
theorem d_Tb_noteAll_10 : decode c_Tb_noteAll 10 = .ok (.if_icmp .ge 32, 3) := by decide +kernel
theorem d_Tb_noteAll_13 : decode c_Tb_noteAll 13 = .ok (.iload_n 1, 1) := by decide +kernel
theorem d_Tb_noteAll_14 : decode c_Tb_noteAll 14 = .ok (.iload_n 2, 1) := by decide +kernel
theorem d_Tb_noteAll_15 : decode c_Tb_noteAll 15 = .ok (.invokestatic 124, 3) := by decide +kernel
theorem d_Tb_noteAll_18 : decode c_Tb_noteAll 18 = .ok (.ifCond .eq 18, 3) := by decide +kernel
theorem d_Tb_noteAll_21 : decode c_Tb_noteAll 21 = .ok (.aload_n 0, 1) := by decide +kernel
theorem d_Tb_noteAll_22 : decode c_Tb_noteAll 22 = .ok (.getfield 10, 3) := by decide +kernel
theorem d_Tb_noteAll_25 : decode c_Tb_noteAll 25 = .ok (.iload_n 2, 1) := by decide +kernel
theorem d_Tb_noteAll_26 : decode c_Tb_noteAll 26 = .ok (.invokevirtual 166, 3) := by decide +kernel
theorem d_Tb_noteAll_29 : decode c_Tb_noteAll 29 = .ok (.checkcast 77, 3) := by decide +kernel
theorem d_Tb_noteAll_32 : decode c_Tb_noteAll 32 = .ok (.iconst 1, 1) := by decide +kernel
theorem d_Tb_noteAll_33 : decode c_Tb_noteAll 33 = .ok (.putfield 348, 3) := by decide +kernel
theorem d_Tb_noteAll_36 : decode c_Tb_noteAll 36 = .ok (.iinc 2 1, 3) := by decide +kernel
theorem d_Tb_noteAll_39 : decode c_Tb_noteAll 39 = .ok (.goto (-37), 3) := by decide +kernel
theorem d_Tb_noteAll_42 : decode c_Tb_noteAll 42 = .ok (.return_, 1) := by decide +kernel
set_option maxHeartbeats 4000000 in
set_option maxRecDepth 100000 in
theorem m_Tb_noteAllE {g0 : State} {d : zD} {l : Launch} {a0 : Array Value} (hs0 : zS0 d a0 g0) (hst : l.stackTraces = false) {G : zG} {A : Nat → Nat} {D : Nat → UInt64} {V : Nat → Nat → Int32} {nk ns : Nat} (hT : zT d A D V nk ns G) (set : Int32) : zMet g0 d l y_Tb_noteAll c_Tb_noteAll 3 ((Option.none : Option Jvm.ClassFile.FieldType)) 11 0 0 [.ref (A 0), .int set] (G) (fun r G1 => r = none ∧ ∃ V', zT d A D V' nk ns G1 ∧ zNt V V' set nk ∧ tFr A nk ns G G1) (zNo) := by
  have hG_Tb := hT.tb
  have hnk : nk ≤ 8 := hT.2.1
  have hns : ns ≤ 6 := hT.2.2.1
  refine z_entry hs0 hst (by decide) (Nat.le_of_ble_eq_true rfl) (fun p e s m args below meth c => ?_)
  refine z_iconst (v := (nI 0)) d_Tb_noteAll_0 (by decide) ?_
  refine z_istore_n (L' := [(2, _), (0, _), (1, _)]) d_Tb_noteAll_1 rfl (by decide) rfl ?_
  have key_2 : ∀ (n : Nat) (i : Nat) (G2 : zG) (V2 : Nat → Nat → Int32), nk - i < n → (i ≤ nk) → (zT d A D V2 nk ns G2) → (zNt V V2 set i) → (tFr A nk ns G G2) → Z g0 d y_Tb_noteAll c_Tb_noteAll 3 ((Option.none : Option Jvm.ClassFile.FieldType)) [] p l e (zR 11 0 0) s m args below meth c (vx_MQ below (zQc g0 d (fun r G1 => r = none ∧ ∃ V', zT d A D V' nk ns G1 ∧ zNt V V' set nk ∧ tFr A nk ns G G1)) (zXc g0 d (zNo)) args s 0 0 (zA g0)) 0 0 (G2) [(2, .int (nI i)), (0, .ref (A 0)), (1, .int set)] [] 2 := by
    intro n
    induction n with
    | zero => intro i G2 V2 h0; exact absurd h0 (Nat.not_lt_zero _)
    | succ n ih_2 =>
      intro i G2 V2 hm_2 hi hT2 hK2 hF2
      refine z_iload_n 0 d_Tb_noteAll_2 rfl rfl ?_
      refine z_aload_n 1 d_Tb_noteAll_3 rfl rfl ?_
      refine z_get zc_Tb 0 (by decide) qF_Tb_10 hT2.tb rfl d_Tb_noteAll_4 ?_
      refine z_callV0 (m_AL_size hs0 hst hT2.kl) ym_AL_size qM_Tb_68 qI_AL_size qV_AL_AL_size zc_AL hT2.kl d_Tb_noteAll_7 rfl (Nat.le_of_ble_eq_true rfl) ⟨Nat.zero_le _, Nat.zero_le _⟩ ⟨Nat.le_of_ble_eq_true rfl, Nat.le_of_ble_eq_true rfl⟩ ?_
      refine z_icmp_ge 42 d_Tb_noteAll_10 (by decide) (fun c_10 => ?_) (fun c_10 => ?_)
      · skip
        obtain rfl : i = nk := by
          have := (nI_leI (a := nk) (b := i) (by omega) (by omega)).mp c_10
          omega
        exact z_vret rfl (⟨rfl, V2, hT2, hK2, hF2⟩) (by first | decide | omega) (by first | decide | omega) d_Tb_noteAll_42
      · skip
        have hi6 : i < nk := Nat.lt_of_not_le fun q => c_10 (nI_le q (by omega))
        refine z_iload_n 2 d_Tb_noteAll_13 rfl rfl ?_
        refine z_iload_n 0 d_Tb_noteAll_14 rfl rfl ?_
        refine z_callS0 (m_Tb_isIn hs0 hst set (nI i)) ym_Tb_isIn qM_Tb_124 qS_Tb_isIn d_Tb_noteAll_15 rfl (Nat.le_of_ble_eq_true rfl) ⟨Nat.zero_le _, Nat.zero_le _⟩ ⟨Nat.le_of_ble_eq_true rfl, Nat.le_of_ble_eq_true rfl⟩ ?_
        refine z_if_eq 36 d_Tb_noteAll_18 (by decide) (fun c_18 => ?_) (fun c_18 => ?_)
        · skip
          have hf2 : zbt set i = false := (zb_0 _).mp c_18
          refine z_iinc (v := nI (i + 1)) (L' := [(2, _), (0, _), (1, _)]) 0 d_Tb_noteAll_36 rfl (nI_1 i) (by decide) rfl ?_
          refine z_goto 2 d_Tb_noteAll_39 (by decide) ?_
          first
            | exact ih_2 (i + 1) _ _ (by omega) (by omega) hT3 (hK2.note hf3) (hF2.tr hF3)
            | exact ih_2 (i + 1) _ _ (by omega) (by omega) hT2 (hK2.skip hf2) hF2
        · skip
          refine z_aload_n 1 d_Tb_noteAll_21 rfl rfl ?_
          refine z_get zc_Tb 0 (by decide) qF_Tb_10 hT2.tb rfl d_Tb_noteAll_22 ?_
          refine z_iload_n 0 d_Tb_noteAll_25 rfl rfl ?_
          refine z_callV0 (m_AL_get hs0 hst (hT2.kA hi6) hi6 (if_pos hi6)) ym_AL_get qM_Tb_166 qI_AL_get qV_AL_AL_get zc_AL (hT2.kA hi6).1 d_Tb_noteAll_26 rfl (Nat.le_of_ble_eq_true rfl) ⟨Nat.zero_le _, Nat.zero_le _⟩ ⟨Nat.le_of_ble_eq_true rfl, Nat.le_of_ble_eq_true rfl⟩ ?_
          refine z_castS zc_Ke qK_Tb_77 (hT2.ke hi6) d_Tb_noteAll_29 ?_
          refine z_iconst (v := 1) d_Tb_noteAll_32 (by decide) ?_
          refine z_put zc_Ke 5 (by decide) qF_Tb_348 (hT2.ke hi6) rfl rfl rfl (Nat.le_of_ble_eq_true rfl) d_Tb_noteAll_33 ?_
          obtain ⟨hT3, hF3⟩ := hT2.note hi6
          have hf3 : zbt set i = true := (zb_n0 _).mp c_18
          refine z_iinc (v := nI (i + 1)) (L' := [(2, _), (0, _), (1, _)]) 0 d_Tb_noteAll_36 rfl (nI_1 i) (by decide) rfl ?_
          refine z_goto 2 d_Tb_noteAll_39 (by decide) ?_
          first
            | exact ih_2 (i + 1) _ _ (by omega) (by omega) hT3 (hK2.note hf3) (hF2.tr hF3)
            | exact ih_2 (i + 1) _ _ (by omega) (by omega) hT2 (hK2.skip hf2) hF2
  exact key_2 (nk + 1) 0 _ _ (by omega) (by omega) hT zNt.z zFr.rf
theorem d_Tb_loseShares_0 : decode c_Tb_loseShares 0 = .ok (.iconst 0, 1) := by decide +kernel
theorem d_Tb_loseShares_1 : decode c_Tb_loseShares 1 = .ok (.istore_n 2, 1) := by decide +kernel
theorem d_Tb_loseShares_2 : decode c_Tb_loseShares 2 = .ok (.iload_n 2, 1) := by decide +kernel
theorem d_Tb_loseShares_3 : decode c_Tb_loseShares 3 = .ok (.aload_n 0, 1) := by decide +kernel
theorem d_Tb_loseShares_4 : decode c_Tb_loseShares 4 = .ok (.getfield 16, 3) := by decide +kernel
theorem d_Tb_loseShares_7 : decode c_Tb_loseShares 7 = .ok (.invokevirtual 68, 3) := by decide +kernel
theorem d_Tb_loseShares_10 : decode c_Tb_loseShares 10 = .ok (.if_icmp .ge 24, 3) := by decide +kernel
theorem d_Tb_loseShares_13 : decode c_Tb_loseShares 13 = .ok (.aload_n 0, 1) := by decide +kernel
theorem d_Tb_loseShares_14 : decode c_Tb_loseShares 14 = .ok (.getfield 16, 3) := by decide +kernel
theorem d_Tb_loseShares_17 : decode c_Tb_loseShares 17 = .ok (.iload_n 2, 1) := by decide +kernel
theorem d_Tb_loseShares_18 : decode c_Tb_loseShares 18 = .ok (.invokevirtual 166, 3) := by decide +kernel
theorem d_Tb_loseShares_21 : decode c_Tb_loseShares 21 = .ok (.checkcast 115, 3) := by decide +kernel
theorem d_Tb_loseShares_24 : decode c_Tb_loseShares 24 = .ok (.iload_n 1, 1) := by decide +kernel
theorem d_Tb_loseShares_25 : decode c_Tb_loseShares 25 = .ok (.invokevirtual 345, 3) := by decide +kernel
theorem d_Tb_loseShares_28 : decode c_Tb_loseShares 28 = .ok (.iinc 2 1, 3) := by decide +kernel
theorem d_Tb_loseShares_31 : decode c_Tb_loseShares 31 = .ok (.goto (-29), 3) := by decide +kernel
theorem d_Tb_loseShares_34 : decode c_Tb_loseShares 34 = .ok (.return_, 1) := by decide +kernel
set_option maxHeartbeats 4000000 in
set_option maxRecDepth 100000 in
theorem m_Tb_loseSharesE {g0 : State} {d : zD} {l : Launch} {a0 : Array Value} (hs0 : zS0 d a0 g0) (hst : l.stackTraces = false) {G : zG} {A : Nat → Nat} {D : Nat → UInt64} {V : Nat → Nat → Int32} {nk ns : Nat} (hT : zT d A D V nk ns G) {j : Nat} (hj : j < 8) : zMet g0 d l y_Tb_loseShares c_Tb_loseShares 3 ((Option.none : Option Jvm.ClassFile.FieldType)) 11 0 0 [.ref (A 0), .int (nI j)] (G) (fun r G1 => r = none ∧ ∃ V', zT d A D V' nk ns G1 ∧ zLo V V' j ns ∧ tFr A nk ns G G1) (zNo) := by
  have hG_Tb := hT.tb
  have hnk : nk ≤ 8 := hT.2.1
  have hns : ns ≤ 6 := hT.2.2.1
  refine z_entry hs0 hst (by decide) (Nat.le_of_ble_eq_true rfl) (fun p e s m args below meth c => ?_)
  refine z_iconst (v := (nI 0)) d_Tb_loseShares_0 (by decide) ?_
  refine z_istore_n (L' := [(2, _), (0, _), (1, _)]) d_Tb_loseShares_1 rfl (by decide) rfl ?_
  have key_2 : ∀ (n : Nat) (i : Nat) (G2 : zG) (V2 : Nat → Nat → Int32), ns - i < n → (i ≤ ns) → (zT d A D V2 nk ns G2) → (zLo V V2 j i) → (tFr A nk ns G G2) → Z g0 d y_Tb_loseShares c_Tb_loseShares 3 ((Option.none : Option Jvm.ClassFile.FieldType)) [] p l e (zR 11 0 0) s m args below meth c (vx_MQ below (zQc g0 d (fun r G1 => r = none ∧ ∃ V', zT d A D V' nk ns G1 ∧ zLo V V' j ns ∧ tFr A nk ns G G1)) (zXc g0 d (zNo)) args s 0 0 (zA g0)) 0 0 (G2) [(2, .int (nI i)), (0, .ref (A 0)), (1, .int (nI j))] [] 2 := by
    intro n
    induction n with
    | zero => intro i G2 V2 h0; exact absurd h0 (Nat.not_lt_zero _)
    | succ n ih_2 =>
      intro i G2 V2 hm_2 hi hT2 hK2 hF2
      refine z_iload_n 0 d_Tb_loseShares_2 rfl rfl ?_
      refine z_aload_n 1 d_Tb_loseShares_3 rfl rfl ?_
      refine z_get zc_Tb 1 (by decide) qF_Tb_16 hT2.tb rfl d_Tb_loseShares_4 ?_
      refine z_callV0 (m_AL_size hs0 hst hT2.sl) ym_AL_size qM_Tb_68 qI_AL_size qV_AL_AL_size zc_AL hT2.sl d_Tb_loseShares_7 rfl (Nat.le_of_ble_eq_true rfl) ⟨Nat.zero_le _, Nat.zero_le _⟩ ⟨Nat.le_of_ble_eq_true rfl, Nat.le_of_ble_eq_true rfl⟩ ?_
      refine z_icmp_ge 34 d_Tb_loseShares_10 (by decide) (fun c_10 => ?_) (fun c_10 => ?_)
      · skip
        obtain rfl : i = ns := by
          have := (nI_leI (a := ns) (b := i) (by omega) (by omega)).mp c_10
          omega
        exact z_vret rfl (⟨rfl, V2, hT2, hK2, hF2⟩) (by first | decide | omega) (by first | decide | omega) d_Tb_loseShares_34
      · skip
        have hi6 : i < ns := Nat.lt_of_not_le fun q => c_10 (nI_le q (by omega))
        refine z_aload_n 1 d_Tb_loseShares_13 rfl rfl ?_
        refine z_get zc_Tb 1 (by decide) qF_Tb_16 hT2.tb rfl d_Tb_loseShares_14 ?_
        refine z_iload_n 0 d_Tb_loseShares_17 rfl rfl ?_
        refine z_callV0 (m_AL_get hs0 hst (hT2.sA hi6) hi6 (if_pos hi6)) ym_AL_get qM_Tb_166 qI_AL_get qV_AL_AL_get zc_AL (hT2.sA hi6).1 d_Tb_loseShares_18 rfl (Nat.le_of_ble_eq_true rfl) ⟨Nat.zero_le _, Nat.zero_le _⟩ ⟨Nat.le_of_ble_eq_true rfl, Nat.le_of_ble_eq_true rfl⟩ ?_
        refine z_castS zc_Se qK_Tb_115 (hT2.se hi6).1 d_Tb_loseShares_21 ?_
        refine z_iload_n 2 d_Tb_loseShares_24 rfl rfl ?_
        refine z_callVp0 (m_Se_lose hs0 hst (hT2.se hi6) hj) ym_Se_lose qM_Tb_345 qI_Se_lose qV_Se_Se_lose zc_Se (hT2.se hi6).1 d_Tb_loseShares_25 rfl (Nat.le_of_ble_eq_true rfl) ⟨Nat.zero_le _, Nat.zero_le _⟩ ⟨Nat.le_of_ble_eq_true rfl, Nat.le_of_ble_eq_true rfl⟩ (fun r_25 G_25 hp_25 => ?_)
        obtain ⟨hr_25, hg_25⟩ := hp_25
        obtain rfl : r_25 = none := hr_25
        obtain ⟨hT3, hF3⟩ := hT2.secE hi6 (upd (V2 (300 + i)) j (-1)) (upd (V2 (400 + i)) j (-1))
        rw [← hg_25] at hT3 hF3
        refine z_iinc (v := nI (i + 1)) (L' := [(2, _), (0, _), (1, _)]) 0 d_Tb_loseShares_28 rfl (nI_1 i) (by decide) rfl ?_
        refine z_goto 2 d_Tb_loseShares_31 (by decide) ?_
        exact ih_2 (i + 1) _ _ (by omega) (by omega) hT3 (hK2.lose (by omega)) (hF2.tr hF3)
  exact key_2 (ns + 1) 0 _ _ (by omega) (by omega) hT zLo.z zFr.rf
