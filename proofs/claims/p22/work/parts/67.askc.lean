
/-! what is asked, exactly: the class's answer by T, what is thrown by P; the reference's by T -/
def cAs (V : Nat → Nat → Int32) (T P : Int32 → Prop) (kk : Int32) (V' : Nat → Nat → Int32) (v : Int32) : Prop := zKo V V' ∧ ((kk = 0 ∧ T v) ∨ (kk ≠ 0 ∧ P kk))
def mAq (d : zD) (B : Nat → Nat) (nk ns ne ec : Nat) (V : Nat → Nat → Int32) (G : zG) (T : Int32 → Int32 → (Nat → Nat → Int32) → Prop) : Option Value → zG → Prop := fun r G1 => ∃ (v : Int32) (W' : Nat → Nat → Int32), r = some (.int v) ∧ T (W' 0 0) v W' ∧ zM d B W' nk ns ne ec G1 ∧ zKn V W' ∧ mFr B nk ns ne G G1

/-- the sum over a set -/
def zpri (set : Int32) (p : Nat → Int32) : Nat → Int32
  | 0 => nI 0
  | n + 1 => if zbt set n = true then zpri set p n + p n else zpri set p n
theorem zpri_t {set : Int32} {p : Nat → Int32} {n : Nat} (h : zbt set n = true) : zpri set p n + p n = zpri set p (n + 1) := (if_pos h).symm
theorem zpri_f {set : Int32} {p : Nat → Int32} {n : Nat} (h : zbt set n = false) : zpri set p n = zpri set p (n + 1) := (if_neg (by rw [h]; decide)).symm

/-- the best of the first n sets -/
def zfB (c : Nat → Bool) (l : Nat → Nat → Bool) : Nat → Nat
  | 0 => 0
  | n + 1 => if c (n + 1) = true ∧ (zfB c l n = 0 ∨ l (n + 1) (zfB c l n) = true) then n + 1 else zfB c l n
theorem zfB_le (c : Nat → Bool) (l : Nat → Nat → Bool) : ∀ n, zfB c l n ≤ n
  | 0 => Nat.le_refl _
  | n + 1 => by
    have := zfB_le c l n
    unfold zfB
    split <;> omega
theorem zfB_t {c : Nat → Bool} {l : Nat → Nat → Bool} {n : Nat} (h : c (n + 1) = true) (h2 : zfB c l n = 0 ∨ l (n + 1) (zfB c l n) = true) : zfB c l (n + 1) = n + 1 := if_pos ⟨h, h2⟩
theorem zfB_f {c : Nat → Bool} {l : Nat → Nat → Bool} {n : Nat} (h : c (n + 1) = false ∨ (zfB c l n ≠ 0 ∧ l (n + 1) (zfB c l n) = false)) : zfB c l (n + 1) = zfB c l n := if_neg (fun q => h.elim (fun e => by rw [q.1] at e; cases e) (fun e => q.2.elim e.1 (fun z => by rw [e.2] at z; cases z)))
theorem zfB_congr {c1 c2 : Nat → Bool} {l1 l2 : Nat → Nat → Bool} : ∀ n, (∀ s, 1 ≤ s → s ≤ n → c1 s = c2 s) → (∀ s b, 1 ≤ s → s ≤ n → 1 ≤ b → b ≤ n → l1 s b = l2 s b) → zfB c1 l1 n = zfB c2 l2 n
  | 0, _, _ => rfl
  | n + 1, hc, hl => by
    have ih := zfB_congr n (fun s h1 h2 => hc s h1 (by omega)) (fun s b h1 h2 h3 h4 => hl s b h1 (by omega) h3 (by omega))
    have hb := zfB_le c2 l2 n
    unfold zfB
    rw [ih, hc (n + 1) (by omega) (Nat.le_refl _)]
    by_cases e : zfB c2 l2 n = 0
    · rw [e]
      by_cases d : c2 (n + 1) = true
      · rw [if_pos ⟨d, Or.inl rfl⟩, if_pos ⟨d, Or.inl rfl⟩]
      · rw [if_neg (fun q => d q.1), if_neg (fun q => d q.1)]
    · rw [hl (n + 1) (zfB c2 l2 n) (by omega) (Nat.le_refl _) (by omega) (by omega)]
theorem zfB_ext {c : Nat → Bool} {l : Nat → Nat → Bool} {n : Nat} : ∀ m, n ≤ m → (∀ s, n < s → s ≤ m → c s = false) → zfB c l m = zfB c l n
  | 0, h, _ => by rw [Nat.le_zero.mp h]
  | m + 1, h, hf => by
    by_cases e : n = m + 1
    · rw [e]
    · rw [zfB_f (Or.inl (hf (m + 1) (by omega) (Nat.le_refl _)))]
      exact zfB_ext m (by omega) (fun s h1 h2 => hf s h1 (by omega))
theorem fw_1 {A B C : Prop} [Decidable A] [Decidable B] [Decidable C] (h : ¬ A) : (decide A && (decide B && decide C)) = false := by rw [decide_eq_false h, Bool.false_and]
theorem fw_2 {A B C : Prop} [Decidable A] [Decidable B] [Decidable C] (h : ¬ B) : (decide A && (decide B && decide C)) = false := by rw [decide_eq_false h, Bool.false_and, Bool.and_false]
theorem fw_3 {A B C : Prop} [Decidable A] [Decidable B] [Decidable C] (h : ¬ C) : (decide A && (decide B && decide C)) = false := by rw [decide_eq_false h, Bool.and_false, Bool.and_false]
theorem fw_t {A B C : Prop} [Decidable A] [Decidable B] [Decidable C] (h : A) (h2 : B) (h3 : C) : (decide A && (decide B && decide C)) = true := by rw [decide_eq_true h, decide_eq_true h2, decide_eq_true h3]; rfl
theorem fl_1 {A B C : Prop} [Decidable A] [Decidable B] [Decidable C] (h : A) : (decide A || (decide B && decide C)) = true := by rw [decide_eq_true h, Bool.true_or]
theorem fl_2 {A B C : Prop} [Decidable A] [Decidable B] [Decidable C] (h : ¬ A) (h2 : ¬ B) : (decide A || (decide B && decide C)) = false := by rw [decide_eq_false h, decide_eq_false h2, Bool.false_and, Bool.false_or]
theorem fl_3 {A B C : Prop} [Decidable A] [Decidable B] [Decidable C] (h : ¬ A) (h2 : B) (h3 : C) : (decide A || (decide B && decide C)) = true := by rw [decide_eq_false h, decide_eq_true h2, decide_eq_true h3]; rfl
theorem fl_4 {A B C : Prop} [Decidable A] [Decidable B] [Decidable C] (h : ¬ A) (h3 : ¬ C) : (decide A || (decide B && decide C)) = false := by rw [decide_eq_false h, decide_eq_false h3, Bool.and_false, Bool.false_or]

def fwl (V : Nat → Nat → Int32) (nk : Nat) (s b : Int32) : Bool := decide (zbc s - zbc b < 0) || (decide (zbc s - zbc b = 0) && decide (zpri s (fun k => V (100 + k) 2) nk < zpri b (fun k => V (100 + k) 2) nk))
def fwc (V : Nat → Nat → Int32) (nk si s : Nat) : Bool := decide (nI s &&& (nI (zsetN (zcur (V (400 + si)) (V (200 + si) 3)) 8) ^^^ (-1)) = 0) && (decide (V (200 + si) 0 ≤ zbc (nI s)) && decide (V (200 + si) 1 ≤ zbc (zzo (nI s) (fun k => V (100 + k) 1) nk)))
def qFw (V : Nat → Nat → Int32) (nk si : Nat) : Int32 := nI (zfB (fwc V nk si) (fun s b => fwl V nk (nI s) (nI b)) (zsetN (zcur (V (400 + si)) (V (200 + si) 3)) 8))
def tFw (V : Nat → Nat → Int32) (nk ns : Nat) (x v : Int32) : Prop := ∃ si, si < ns ∧ x = nI si ∧ v = qFw V nk si
def pFw (ns : Nat) (x kk : Int32) : Prop := zoo ns x ∧ kk = 1

set_option maxHeartbeats 4000000 in
set_option maxRecDepth 100000 in
theorem m_Tb_priceOfE {g0 : State} {d : zD} {l : Launch} {a0 : Array Value} (hs0 : zS0 d a0 g0) (hst : l.stackTraces = false) {G : zG} {A : Nat → Nat} {D : Nat → UInt64} {V : Nat → Nat → Int32} {nk ns : Nat} (hT : zT d A D V nk ns G) (set : Int32) : zMet g0 d l y_Tb_priceOf c_Tb_priceOf 4 ((Option.some Jvm.ClassFile.FieldType.int)) 11 0 0 [.ref (A 0), .int set] (G) (zEq (some (.int (zpri set (fun k => V (100 + k) 2) nk))) G) (zNo) := by
  have hG_Tb := hT.tb
  have hnk : nk ≤ 8 := hT.2.1
  have hns : ns ≤ 6 := hT.2.2.1
  refine z_entry hs0 hst (by decide) (Nat.le_of_ble_eq_true rfl) (fun p e s m args below meth c => ?_)
  refine z_iconst (v := (nI 0)) d_Tb_priceOf_0 (by decide) ?_
  refine z_istore_n (L' := [(2, _), (0, _), (1, _)]) d_Tb_priceOf_1 rfl (by decide) rfl ?_
  refine z_iconst (v := (nI 0)) d_Tb_priceOf_2 (by decide) ?_
  refine z_istore_n (L' := [(3, _), (2, _), (0, _), (1, _)]) d_Tb_priceOf_3 rfl (by decide) rfl ?_
  have key_4 : ∀ (n : Nat) (i : Nat), nk - i < n → (i ≤ nk) → Z g0 d y_Tb_priceOf c_Tb_priceOf 4 ((Option.some Jvm.ClassFile.FieldType.int)) [] p l e (zR 11 0 0) s m args below meth c (vx_MQ below (zQc g0 d (zEq (some (.int (zpri set (fun k => V (100 + k) 2) nk))) G)) (zXc g0 d (zNo)) args s 0 0 (zA g0)) 0 0 (G) [(3, .int (nI i)), (2, .int (zpri set (fun k => V (100 + k) 2) i)), (0, .ref (A 0)), (1, .int set)] [] 4 := by
    intro n
    induction n with
    | zero => intro i h0; exact absurd h0 (Nat.not_lt_zero _)
    | succ n ih_4 =>
      intro i hm_4 hi
      refine z_iload_n 0 d_Tb_priceOf_4 rfl rfl ?_
      refine z_aload_n 2 d_Tb_priceOf_5 rfl rfl ?_
      refine z_get zc_Tb 0 (by decide) qF_Tb_10 hG_Tb rfl d_Tb_priceOf_6 ?_
      refine z_callV0 (m_AL_size hs0 hst hT.kl) ym_AL_size qM_Tb_68 qI_AL_size qV_AL_AL_size zc_AL hT.kl d_Tb_priceOf_9 rfl (Nat.le_of_ble_eq_true rfl) ⟨Nat.zero_le _, Nat.zero_le _⟩ ⟨Nat.le_of_ble_eq_true rfl, Nat.le_of_ble_eq_true rfl⟩ ?_
      refine z_icmp_ge 46 d_Tb_priceOf_12 (by decide) (fun c_12 => ?_) (fun c_12 => ?_)
      · skip
        obtain rfl : nk = i := by
          have := (nI_leI (a := nk) (b := i) (by omega) (by omega)).mp c_12
          omega
        refine z_iload_n 1 d_Tb_priceOf_46 rfl rfl ?_
        exact z_iret rfl (⟨rfl, rfl⟩) (by first | decide | omega) (by first | decide | omega) d_Tb_priceOf_47
      · skip
        have hi6 : i < nk := Nat.lt_of_not_le fun q => c_12 (nI_le q (by omega))
        refine z_iload_n 3 d_Tb_priceOf_15 rfl rfl ?_
        refine z_iload_n 0 d_Tb_priceOf_16 rfl rfl ?_
        refine z_callS0 (m_Tb_isIn hs0 hst set (nI i)) ym_Tb_isIn qM_Tb_124 qS_Tb_isIn d_Tb_priceOf_17 rfl (Nat.le_of_ble_eq_true rfl) ⟨Nat.zero_le _, Nat.zero_le _⟩ ⟨Nat.le_of_ble_eq_true rfl, Nat.le_of_ble_eq_true rfl⟩ ?_
        refine z_if_eq 40 d_Tb_priceOf_20 (by decide) (fun c_20 => ?_) (fun c_20 => ?_)
        · skip
          rw [zpri_f (p := (fun k => V (100 + k) 2)) (show zbt set i = false from (zb_0 _).mp c_20)]
          refine z_iinc (v := nI (i + 1)) (L' := [(3, _), (2, _), (0, _), (1, _)]) 0 d_Tb_priceOf_40 rfl (nI_1 i) (by decide) rfl ?_
          refine z_goto 4 d_Tb_priceOf_43 (by decide) ?_
          exact ih_4 (i + 1) (by omega) (by omega)
        · skip
          refine z_iload_n 1 d_Tb_priceOf_23 rfl rfl ?_
          refine z_aload_n 2 d_Tb_priceOf_24 rfl rfl ?_
          refine z_get zc_Tb 0 (by decide) qF_Tb_10 hG_Tb rfl d_Tb_priceOf_25 ?_
          refine z_iload_n 0 d_Tb_priceOf_28 rfl rfl ?_
          refine z_callV0 (m_AL_get hs0 hst (hT.kA hi6) hi6 (if_pos hi6)) ym_AL_get qM_Tb_166 qI_AL_get qV_AL_AL_get zc_AL (hT.kA hi6).1 d_Tb_priceOf_29 rfl (Nat.le_of_ble_eq_true rfl) ⟨Nat.zero_le _, Nat.zero_le _⟩ ⟨Nat.le_of_ble_eq_true rfl, Nat.le_of_ble_eq_true rfl⟩ ?_
          refine z_castS zc_Ke qK_Tb_77 (hT.ke hi6) d_Tb_priceOf_32 ?_
          refine z_get zc_Ke 2 (by decide) qF_Tb_363 (hT.ke hi6) rfl d_Tb_priceOf_35 ?_
          refine z_iadd d_Tb_priceOf_38 ?_
          refine z_topv (zpri_t (p := (fun k => V (100 + k) 2)) (show zbt set i = true from (zb_n0 _).mp c_20)) ?_
          refine z_istore_n (L' := [(2, _), (3, _), (0, _), (1, _)]) d_Tb_priceOf_39 rfl (by decide) rfl ?_
          refine z_iinc (v := nI (i + 1)) (L' := [(3, _), (2, _), (0, _), (1, _)]) 1 d_Tb_priceOf_40 rfl (nI_1 i) (by decide) rfl ?_
          refine z_goto 4 d_Tb_priceOf_43 (by decide) ?_
          exact ih_4 (i + 1) (by omega) (by omega)
  exact key_4 (nk + 1) 0 (by omega) (by omega)
set_option maxHeartbeats 4000000 in
set_option maxRecDepth 100000 in
theorem m_Tb_isLessE {g0 : State} {d : zD} {l : Launch} {a0 : Array Value} (hs0 : zS0 d a0 g0) (hst : l.stackTraces = false) {G : zG} {A : Nat → Nat} {D : Nat → UInt64} {V : Nat → Nat → Int32} {nk ns : Nat} (hT : zT d A D V nk ns G) (set oth : Int32) : zMet g0 d l y_Tb_isLess c_Tb_isLess 4 ((Option.some Jvm.ClassFile.FieldType.boolean)) 12 0 0 [.ref (A 0), .int set, .int oth] (G) (zEq (some (.int (zb (fwl V nk set oth)))) G) (zNo) := by
  have hG_Tb := hT.tb
  have hnk : nk ≤ 8 := hT.2.1
  have hns : ns ≤ 6 := hT.2.2.1
  refine z_entry hs0 hst (by decide) (Nat.le_of_ble_eq_true rfl) (fun p e s m args below meth c => ?_)
  refine z_iload_n 1 d_Tb_isLess_0 rfl rfl ?_
  refine z_callS0 (m_In_bitCount hs0 hst set) ym_In_bitCount qM_Tb_105 qS_In_bitCount d_Tb_isLess_1 rfl (Nat.le_of_ble_eq_true rfl) ⟨Nat.zero_le _, Nat.zero_le _⟩ ⟨Nat.le_of_ble_eq_true rfl, Nat.le_of_ble_eq_true rfl⟩ ?_
  refine z_iload_n 2 d_Tb_isLess_4 rfl rfl ?_
  refine z_callS0 (m_In_bitCount hs0 hst oth) ym_In_bitCount qM_Tb_105 qS_In_bitCount d_Tb_isLess_5 rfl (Nat.le_of_ble_eq_true rfl) ⟨Nat.zero_le _, Nat.zero_le _⟩ ⟨Nat.le_of_ble_eq_true rfl, Nat.le_of_ble_eq_true rfl⟩ ?_
  refine z_isub d_Tb_isLess_8 ?_
  refine z_istore_n (L' := [(3, _), (0, _), (1, _), (2, _)]) d_Tb_isLess_9 rfl (by decide) rfl ?_
  refine z_iload_n 0 d_Tb_isLess_10 rfl rfl ?_
  refine z_if_lt 31 d_Tb_isLess_11 (by decide) (fun c_11 => ?_) (fun c_11 => ?_)
  · skip
    refine z_iconst (v := 1) d_Tb_isLess_31 (by decide) ?_
    refine z_goto 36 d_Tb_isLess_32 (by decide) ?_
    exact z_zret rfl (by first | rfl | exact zb_nar _) (⟨by first | exact congrArg (fun b => some (Value.int (zb b))) (fl_1 c_11).symm | exact congrArg (fun b => some (Value.int (zb b))) (fl_2 c_11 c_15).symm | exact congrArg (fun b => some (Value.int (zb b))) (fl_4 c_11 (Int32.not_lt.mpr c_28)).symm | exact congrArg (fun b => some (Value.int (zb b))) (fl_3 c_11 c_15 (Int32.not_le.mp c_28)).symm, rfl⟩) (by first | decide | omega) (by first | decide | omega) d_Tb_isLess_36
  · skip
    refine z_iload_n 0 d_Tb_isLess_14 rfl rfl ?_
    refine z_if_ne 35 d_Tb_isLess_15 (by decide) (fun c_15 => ?_) (fun c_15 => ?_)
    · skip
      refine z_iconst (v := 0) d_Tb_isLess_35 (by decide) ?_
      exact z_zret rfl (by first | rfl | exact zb_nar _) (⟨by first | exact congrArg (fun b => some (Value.int (zb b))) (fl_1 c_11).symm | exact congrArg (fun b => some (Value.int (zb b))) (fl_2 c_11 c_15).symm | exact congrArg (fun b => some (Value.int (zb b))) (fl_4 c_11 (Int32.not_lt.mpr c_28)).symm | exact congrArg (fun b => some (Value.int (zb b))) (fl_3 c_11 c_15 (Int32.not_le.mp c_28)).symm, rfl⟩) (by first | decide | omega) (by first | decide | omega) d_Tb_isLess_36
    · skip
      refine z_aload_n 1 d_Tb_isLess_18 rfl rfl ?_
      refine z_iload_n 2 d_Tb_isLess_19 rfl rfl ?_
      refine z_callV0 ((m_Tb_priceOfE hs0 hst hT set)) ym_Tb_priceOf qM_Tb_372 qI_Tb_priceOf qV_Tb_Tb_priceOf zc_Tb hG_Tb d_Tb_isLess_20 rfl (Nat.le_of_ble_eq_true rfl) ⟨Nat.zero_le _, Nat.zero_le _⟩ ⟨Nat.le_of_ble_eq_true rfl, Nat.le_of_ble_eq_true rfl⟩ ?_
      refine z_aload_n 1 d_Tb_isLess_23 rfl rfl ?_
      refine z_iload_n 3 d_Tb_isLess_24 rfl rfl ?_
      refine z_callV0 ((m_Tb_priceOfE hs0 hst hT oth)) ym_Tb_priceOf qM_Tb_372 qI_Tb_priceOf qV_Tb_Tb_priceOf zc_Tb hG_Tb d_Tb_isLess_25 rfl (Nat.le_of_ble_eq_true rfl) ⟨Nat.zero_le _, Nat.zero_le _⟩ ⟨Nat.le_of_ble_eq_true rfl, Nat.le_of_ble_eq_true rfl⟩ ?_
      refine z_icmp_ge 35 d_Tb_isLess_28 (by decide) (fun c_28 => ?_) (fun c_28 => ?_)
      · skip
        refine z_iconst (v := 0) d_Tb_isLess_35 (by decide) ?_
        exact z_zret rfl (by first | rfl | exact zb_nar _) (⟨by first | exact congrArg (fun b => some (Value.int (zb b))) (fl_1 c_11).symm | exact congrArg (fun b => some (Value.int (zb b))) (fl_2 c_11 c_15).symm | exact congrArg (fun b => some (Value.int (zb b))) (fl_4 c_11 (Int32.not_lt.mpr c_28)).symm | exact congrArg (fun b => some (Value.int (zb b))) (fl_3 c_11 c_15 (Int32.not_le.mp c_28)).symm, rfl⟩) (by first | decide | omega) (by first | decide | omega) d_Tb_isLess_36
      · skip
        refine z_iconst (v := 1) d_Tb_isLess_31 (by decide) ?_
        refine z_goto 36 d_Tb_isLess_32 (by decide) ?_
        exact z_zret rfl (by first | rfl | exact zb_nar _) (⟨by first | exact congrArg (fun b => some (Value.int (zb b))) (fl_1 c_11).symm | exact congrArg (fun b => some (Value.int (zb b))) (fl_2 c_11 c_15).symm | exact congrArg (fun b => some (Value.int (zb b))) (fl_4 c_11 (Int32.not_lt.mpr c_28)).symm | exact congrArg (fun b => some (Value.int (zb b))) (fl_3 c_11 c_15 (Int32.not_le.mp c_28)).symm, rfl⟩) (by first | decide | omega) (by first | decide | omega) d_Tb_isLess_36
set_option maxHeartbeats 4000000 in
set_option maxRecDepth 100000 in
theorem m_Tb_fewestOfE {g0 : State} {d : zD} {l : Launch} {a0 : Array Value} (hs0 : zS0 d a0 g0) (hst : l.stackTraces = false) {G : zG} {A : Nat → Nat} {D : Nat → UInt64} {V : Nat → Nat → Int32} {nk ns : Nat} (hT : zT d A D V nk ns G) {si : Nat} (hsi : si < ns) : zMet g0 d l y_Tb_fewestOf c_Tb_fewestOf 6 ((Option.some Jvm.ClassFile.FieldType.int)) 13 0 0 [.ref (A 0), .ref (A (200 + si))] (G) (zEq (some (.int (qFw V nk si))) G) (zNo) := by
  have hG_Tb := hT.tb
  have hnk : nk ≤ 8 := hT.2.1
  have hns : ns ≤ 6 := hT.2.2.1
  have hS := hT.se hsi
  have hh9 := (zset_N (zcur (V (400 + si)) (V (200 + si) 3)) 8 (by decide)).2
  refine z_entry hs0 hst (by decide) (Nat.le_of_ble_eq_true rfl) (fun p e s m args below meth c => ?_)
  refine z_aload_n 1 d_Tb_fewestOf_0 rfl rfl ?_
  refine z_callV0 (m_Se_currentSet hs0 hst hS) ym_Se_currentSet qM_Tb_144 qI_Se_currentSet qV_Se_Se_currentSet zc_Se hS.1 d_Tb_fewestOf_1 rfl (Nat.le_of_ble_eq_true rfl) ⟨Nat.zero_le _, Nat.zero_le _⟩ ⟨Nat.le_of_ble_eq_true rfl, Nat.le_of_ble_eq_true rfl⟩ ?_
  refine z_topv (zset_N _ 8 (by decide)).1 ?_
  refine z_istore_n (L' := [(2, _), (0, _), (1, _)]) d_Tb_fewestOf_4 rfl (by decide) rfl ?_
  refine z_iconst (v := (nI 0)) d_Tb_fewestOf_5 (by decide) ?_
  refine z_istore_n (L' := [(3, _), (2, _), (0, _), (1, _)]) d_Tb_fewestOf_6 rfl (by decide) rfl ?_
  refine z_iconst (v := (nI (0 + 1))) d_Tb_fewestOf_7 (by decide) ?_
  refine z_istore (L' := [(4, _), (3, _), (2, _), (0, _), (1, _)]) d_Tb_fewestOf_8 (by decide) rfl ?_
  have key_10 : ∀ (n : Nat) (i : Nat), (zsetN (zcur (V (400 + si)) (V (200 + si) 3)) 8) + 1 - i < n → (i ≤ (zsetN (zcur (V (400 + si)) (V (200 + si) 3)) 8)) → Z g0 d y_Tb_fewestOf c_Tb_fewestOf 6 ((Option.some Jvm.ClassFile.FieldType.int)) [] p l e (zR 13 0 0) s m args below meth c (vx_MQ below (zQc g0 d (zEq (some (.int (qFw V nk si))) G)) (zXc g0 d (zNo)) args s 0 0 (zA g0)) 0 0 (G) [(4, .int (nI (i + 1))), (3, .int (nI (zfB (fwc V nk si) (fun s b => fwl V nk (nI s) (nI b)) i))), (2, .int (nI (zsetN (zcur (V (400 + si)) (V (200 + si) 3)) 8))), (0, .ref (A 0)), (1, .ref (A (200 + si)))] [] 10 := by
    intro n
    induction n with
    | zero => intro i h0; exact absurd h0 (Nat.not_lt_zero _)
    | succ n ih_10 =>
      intro i hm_10 hi
      have hle9 := zfB_le (fwc V nk si) (fun s b => fwl V nk (nI s) (nI b)) i
      have hz9 := nI_z (i := (zfB (fwc V nk si) (fun s b => fwl V nk (nI s) (nI b)) i)) (by omega)
      refine z_iload 0 d_Tb_fewestOf_10 rfl ?_
      refine z_iload_n 2 d_Tb_fewestOf_12 rfl rfl ?_
      refine z_icmp_gt 85 d_Tb_fewestOf_13 (by decide) (fun c_13 => ?_) (fun c_13 => ?_)
      · skip
        obtain rfl : (zsetN (zcur (V (400 + si)) (V (200 + si) 3)) 8) = i := by
          have := (nI_ltI (a := (zsetN (zcur (V (400 + si)) (V (200 + si) 3)) 8)) (b := i + 1) (by omega) (by omega)).mp c_13
          omega
        refine z_iload_n 1 d_Tb_fewestOf_85 rfl rfl ?_
        exact z_iret rfl (⟨rfl, rfl⟩) (by first | decide | omega) (by first | decide | omega) d_Tb_fewestOf_86
      · skip
        have hi6 : i + 1 ≤ (zsetN (zcur (V (400 + si)) (V (200 + si) 3)) 8) := Nat.le_of_not_lt fun q => c_13 ((nI_ltI (by omega) (by omega)).mpr q)
        refine z_iload 0 d_Tb_fewestOf_16 rfl ?_
        refine z_iload_n 2 d_Tb_fewestOf_18 rfl rfl ?_
        refine z_iconst (v := (-1)) d_Tb_fewestOf_19 (by decide) ?_
        refine z_ixor d_Tb_fewestOf_20 ?_
        refine z_iand d_Tb_fewestOf_21 ?_
        refine z_if_ne 41 d_Tb_fewestOf_22 (by decide) (fun c_22 => ?_) (fun c_22 => ?_)
        · skip
          refine z_iconst (v := 0) d_Tb_fewestOf_41 (by decide) ?_
          refine z_istore (L' := [(5, _), (4, _), (3, _), (2, _), (0, _), (1, _)]) d_Tb_fewestOf_42 (by decide) rfl ?_
          refine z_iload 0 d_Tb_fewestOf_44 rfl ?_
          refine z_if_eq 79 d_Tb_fewestOf_46 (by decide) (fun c_46 => ?_) (fun c_46 => ?_)
          · skip
            refine z_iinc (v := nI (i + 1 + 1)) (L' := [(4, _), (5, _), (3, _), (2, _), (0, _), (1, _)]) 1 d_Tb_fewestOf_79 rfl (nI_1 (i + 1)) (by decide) rfl ?_
            refine z_goto 10 d_Tb_fewestOf_82 (by decide) ?_
            refine z_sub (L' := [(4, _), (3, _), (2, _), (0, _), (1, _)]) [0, 2, 3, 4, 5] rfl ?_
            first
              | (exfalso; revert c_46; decide)
              | (have e9 := zfB_f (c := (fwc V nk si)) (l := (fun s b => fwl V nk (nI s) (nI b))) (n := i) (Or.inl (fw_1 c_22))
                 have hb := ih_10 (i + 1) (by omega) (by omega)
                 rw [e9] at hb
                 exact hb)
              | (have e9 := zfB_f (c := (fwc V nk si)) (l := (fun s b => fwl V nk (nI s) (nI b))) (n := i) (Or.inl (fw_2 (Int32.not_le.mpr c_34)))
                 have hb := ih_10 (i + 1) (by omega) (by omega)
                 rw [e9] at hb
                 exact hb)
              | (have e9 := zfB_f (c := (fwc V nk si)) (l := (fun s b => fwl V nk (nI s) (nI b))) (n := i) (Or.inl (fw_3 (Int32.not_le.mpr c_59)))
                 have hb := ih_10 (i + 1) (by omega) (by omega)
                 rw [e9] at hb
                 exact hb)
              | (have e9 := zfB_f (c := (fwc V nk si)) (l := (fun s b => fwl V nk (nI s) (nI b))) (n := i) (Or.inr ⟨fun q => c_63 (congrArg nI q), (zb_0 _).mp c_73⟩)
                 have hb := ih_10 (i + 1) (by omega) (by omega)
                 rw [e9] at hb
                 exact hb)
              | (have e9 := zfB_t (c := (fwc V nk si)) (l := (fun s b => fwl V nk (nI s) (nI b))) (n := i) (fw_t c_22 (Int32.not_lt.mp c_34) (Int32.not_lt.mp c_59)) (Or.inl (hz9.mp c_63))
                 have hb := ih_10 (i + 1) (by omega) (by omega)
                 rw [e9] at hb
                 exact hb)
              | (have e9 := zfB_t (c := (fwc V nk si)) (l := (fun s b => fwl V nk (nI s) (nI b))) (n := i) (fw_t c_22 (Int32.not_lt.mp c_34) (Int32.not_lt.mp c_59)) (Or.inr ((zb_n0 _).mp c_73))
                 have hb := ih_10 (i + 1) (by omega) (by omega)
                 rw [e9] at hb
                 exact hb)
          · skip
            refine z_aload_n 4 d_Tb_fewestOf_49 rfl rfl ?_
            refine z_iload 1 d_Tb_fewestOf_50 rfl ?_
            refine z_callV0 ((m_Tb_zonesOfE hs0 hst hT (nI (i + 1)))) ym_Tb_zonesOf qM_Tb_354 qI_Tb_zonesOf qV_Tb_Tb_zonesOf zc_Tb hG_Tb d_Tb_fewestOf_52 rfl (Nat.le_of_ble_eq_true rfl) ⟨Nat.zero_le _, Nat.zero_le _⟩ ⟨Nat.le_of_ble_eq_true rfl, Nat.le_of_ble_eq_true rfl⟩ ?_
            refine z_aload_n 5 d_Tb_fewestOf_55 rfl rfl ?_
            refine z_get zc_Se 1 (by decide) qF_Tb_357 hS.1 rfl d_Tb_fewestOf_56 ?_
            refine z_icmp_lt 79 d_Tb_fewestOf_59 (by decide) (fun c_59 => ?_) (fun c_59 => ?_)
            · skip
              refine z_iinc (v := nI (i + 1 + 1)) (L' := [(4, _), (5, _), (3, _), (2, _), (0, _), (1, _)]) 1 d_Tb_fewestOf_79 rfl (nI_1 (i + 1)) (by decide) rfl ?_
              refine z_goto 10 d_Tb_fewestOf_82 (by decide) ?_
              refine z_sub (L' := [(4, _), (3, _), (2, _), (0, _), (1, _)]) [0, 2, 3, 4, 5] rfl ?_
              first
                | (exfalso; revert c_46; decide)
                | (have e9 := zfB_f (c := (fwc V nk si)) (l := (fun s b => fwl V nk (nI s) (nI b))) (n := i) (Or.inl (fw_1 c_22))
                   have hb := ih_10 (i + 1) (by omega) (by omega)
                   rw [e9] at hb
                   exact hb)
                | (have e9 := zfB_f (c := (fwc V nk si)) (l := (fun s b => fwl V nk (nI s) (nI b))) (n := i) (Or.inl (fw_2 (Int32.not_le.mpr c_34)))
                   have hb := ih_10 (i + 1) (by omega) (by omega)
                   rw [e9] at hb
                   exact hb)
                | (have e9 := zfB_f (c := (fwc V nk si)) (l := (fun s b => fwl V nk (nI s) (nI b))) (n := i) (Or.inl (fw_3 (Int32.not_le.mpr c_59)))
                   have hb := ih_10 (i + 1) (by omega) (by omega)
                   rw [e9] at hb
                   exact hb)
                | (have e9 := zfB_f (c := (fwc V nk si)) (l := (fun s b => fwl V nk (nI s) (nI b))) (n := i) (Or.inr ⟨fun q => c_63 (congrArg nI q), (zb_0 _).mp c_73⟩)
                   have hb := ih_10 (i + 1) (by omega) (by omega)
                   rw [e9] at hb
                   exact hb)
                | (have e9 := zfB_t (c := (fwc V nk si)) (l := (fun s b => fwl V nk (nI s) (nI b))) (n := i) (fw_t c_22 (Int32.not_lt.mp c_34) (Int32.not_lt.mp c_59)) (Or.inl (hz9.mp c_63))
                   have hb := ih_10 (i + 1) (by omega) (by omega)
                   rw [e9] at hb
                   exact hb)
                | (have e9 := zfB_t (c := (fwc V nk si)) (l := (fun s b => fwl V nk (nI s) (nI b))) (n := i) (fw_t c_22 (Int32.not_lt.mp c_34) (Int32.not_lt.mp c_59)) (Or.inr ((zb_n0 _).mp c_73))
                   have hb := ih_10 (i + 1) (by omega) (by omega)
                   rw [e9] at hb
                   exact hb)
            · skip
              refine z_iload_n 2 d_Tb_fewestOf_62 rfl rfl ?_
              refine z_if_eq 76 d_Tb_fewestOf_63 (by decide) (fun c_63 => ?_) (fun c_63 => ?_)
              · skip
                refine z_iload 1 d_Tb_fewestOf_76 rfl ?_
                refine z_istore_n (L' := [(3, _), (5, _), (4, _), (2, _), (0, _), (1, _)]) d_Tb_fewestOf_78 rfl (by decide) rfl ?_
                refine z_iinc (v := nI (i + 1 + 1)) (L' := [(4, _), (3, _), (5, _), (2, _), (0, _), (1, _)]) 2 d_Tb_fewestOf_79 rfl (nI_1 (i + 1)) (by decide) rfl ?_
                refine z_goto 10 d_Tb_fewestOf_82 (by decide) ?_
                refine z_sub (L' := [(4, _), (3, _), (2, _), (0, _), (1, _)]) [0, 1, 3, 4, 5] rfl ?_
                first
                  | (exfalso; revert c_46; decide)
                  | (have e9 := zfB_f (c := (fwc V nk si)) (l := (fun s b => fwl V nk (nI s) (nI b))) (n := i) (Or.inl (fw_1 c_22))
                     have hb := ih_10 (i + 1) (by omega) (by omega)
                     rw [e9] at hb
                     exact hb)
                  | (have e9 := zfB_f (c := (fwc V nk si)) (l := (fun s b => fwl V nk (nI s) (nI b))) (n := i) (Or.inl (fw_2 (Int32.not_le.mpr c_34)))
                     have hb := ih_10 (i + 1) (by omega) (by omega)
                     rw [e9] at hb
                     exact hb)
                  | (have e9 := zfB_f (c := (fwc V nk si)) (l := (fun s b => fwl V nk (nI s) (nI b))) (n := i) (Or.inl (fw_3 (Int32.not_le.mpr c_59)))
                     have hb := ih_10 (i + 1) (by omega) (by omega)
                     rw [e9] at hb
                     exact hb)
                  | (have e9 := zfB_f (c := (fwc V nk si)) (l := (fun s b => fwl V nk (nI s) (nI b))) (n := i) (Or.inr ⟨fun q => c_63 (congrArg nI q), (zb_0 _).mp c_73⟩)
                     have hb := ih_10 (i + 1) (by omega) (by omega)
                     rw [e9] at hb
                     exact hb)
                  | (have e9 := zfB_t (c := (fwc V nk si)) (l := (fun s b => fwl V nk (nI s) (nI b))) (n := i) (fw_t c_22 (Int32.not_lt.mp c_34) (Int32.not_lt.mp c_59)) (Or.inl (hz9.mp c_63))
                     have hb := ih_10 (i + 1) (by omega) (by omega)
                     rw [e9] at hb
                     exact hb)
                  | (have e9 := zfB_t (c := (fwc V nk si)) (l := (fun s b => fwl V nk (nI s) (nI b))) (n := i) (fw_t c_22 (Int32.not_lt.mp c_34) (Int32.not_lt.mp c_59)) (Or.inr ((zb_n0 _).mp c_73))
                     have hb := ih_10 (i + 1) (by omega) (by omega)
                     rw [e9] at hb
                     exact hb)
              · skip
                refine z_aload_n 4 d_Tb_fewestOf_66 rfl rfl ?_
                refine z_iload 1 d_Tb_fewestOf_67 rfl ?_
                refine z_iload_n 2 d_Tb_fewestOf_69 rfl rfl ?_
                refine z_callV0 ((m_Tb_isLessE hs0 hst hT _ _)) ym_Tb_isLess qM_Tb_369 qI_Tb_isLess qV_Tb_Tb_isLess zc_Tb hG_Tb d_Tb_fewestOf_70 rfl (Nat.le_of_ble_eq_true rfl) ⟨Nat.zero_le _, Nat.zero_le _⟩ ⟨Nat.le_of_ble_eq_true rfl, Nat.le_of_ble_eq_true rfl⟩ ?_
                refine z_if_eq 79 d_Tb_fewestOf_73 (by decide) (fun c_73 => ?_) (fun c_73 => ?_)
                · skip
                  refine z_iinc (v := nI (i + 1 + 1)) (L' := [(4, _), (5, _), (3, _), (2, _), (0, _), (1, _)]) 1 d_Tb_fewestOf_79 rfl (nI_1 (i + 1)) (by decide) rfl ?_
                  refine z_goto 10 d_Tb_fewestOf_82 (by decide) ?_
                  refine z_sub (L' := [(4, _), (3, _), (2, _), (0, _), (1, _)]) [0, 2, 3, 4, 5] rfl ?_
                  first
                    | (exfalso; revert c_46; decide)
                    | (have e9 := zfB_f (c := (fwc V nk si)) (l := (fun s b => fwl V nk (nI s) (nI b))) (n := i) (Or.inl (fw_1 c_22))
                       have hb := ih_10 (i + 1) (by omega) (by omega)
                       rw [e9] at hb
                       exact hb)
                    | (have e9 := zfB_f (c := (fwc V nk si)) (l := (fun s b => fwl V nk (nI s) (nI b))) (n := i) (Or.inl (fw_2 (Int32.not_le.mpr c_34)))
                       have hb := ih_10 (i + 1) (by omega) (by omega)
                       rw [e9] at hb
                       exact hb)
                    | (have e9 := zfB_f (c := (fwc V nk si)) (l := (fun s b => fwl V nk (nI s) (nI b))) (n := i) (Or.inl (fw_3 (Int32.not_le.mpr c_59)))
                       have hb := ih_10 (i + 1) (by omega) (by omega)
                       rw [e9] at hb
                       exact hb)
                    | (have e9 := zfB_f (c := (fwc V nk si)) (l := (fun s b => fwl V nk (nI s) (nI b))) (n := i) (Or.inr ⟨fun q => c_63 (congrArg nI q), (zb_0 _).mp c_73⟩)
                       have hb := ih_10 (i + 1) (by omega) (by omega)
                       rw [e9] at hb
                       exact hb)
                    | (have e9 := zfB_t (c := (fwc V nk si)) (l := (fun s b => fwl V nk (nI s) (nI b))) (n := i) (fw_t c_22 (Int32.not_lt.mp c_34) (Int32.not_lt.mp c_59)) (Or.inl (hz9.mp c_63))
                       have hb := ih_10 (i + 1) (by omega) (by omega)
                       rw [e9] at hb
                       exact hb)
                    | (have e9 := zfB_t (c := (fwc V nk si)) (l := (fun s b => fwl V nk (nI s) (nI b))) (n := i) (fw_t c_22 (Int32.not_lt.mp c_34) (Int32.not_lt.mp c_59)) (Or.inr ((zb_n0 _).mp c_73))
                       have hb := ih_10 (i + 1) (by omega) (by omega)
                       rw [e9] at hb
                       exact hb)
                · skip
                  refine z_iload 1 d_Tb_fewestOf_76 rfl ?_
                  refine z_istore_n (L' := [(3, _), (5, _), (4, _), (2, _), (0, _), (1, _)]) d_Tb_fewestOf_78 rfl (by decide) rfl ?_
                  refine z_iinc (v := nI (i + 1 + 1)) (L' := [(4, _), (3, _), (5, _), (2, _), (0, _), (1, _)]) 2 d_Tb_fewestOf_79 rfl (nI_1 (i + 1)) (by decide) rfl ?_
                  refine z_goto 10 d_Tb_fewestOf_82 (by decide) ?_
                  refine z_sub (L' := [(4, _), (3, _), (2, _), (0, _), (1, _)]) [0, 1, 3, 4, 5] rfl ?_
                  first
                    | (exfalso; revert c_46; decide)
                    | (have e9 := zfB_f (c := (fwc V nk si)) (l := (fun s b => fwl V nk (nI s) (nI b))) (n := i) (Or.inl (fw_1 c_22))
                       have hb := ih_10 (i + 1) (by omega) (by omega)
                       rw [e9] at hb
                       exact hb)
                    | (have e9 := zfB_f (c := (fwc V nk si)) (l := (fun s b => fwl V nk (nI s) (nI b))) (n := i) (Or.inl (fw_2 (Int32.not_le.mpr c_34)))
                       have hb := ih_10 (i + 1) (by omega) (by omega)
                       rw [e9] at hb
                       exact hb)
                    | (have e9 := zfB_f (c := (fwc V nk si)) (l := (fun s b => fwl V nk (nI s) (nI b))) (n := i) (Or.inl (fw_3 (Int32.not_le.mpr c_59)))
                       have hb := ih_10 (i + 1) (by omega) (by omega)
                       rw [e9] at hb
                       exact hb)
                    | (have e9 := zfB_f (c := (fwc V nk si)) (l := (fun s b => fwl V nk (nI s) (nI b))) (n := i) (Or.inr ⟨fun q => c_63 (congrArg nI q), (zb_0 _).mp c_73⟩)
                       have hb := ih_10 (i + 1) (by omega) (by omega)
                       rw [e9] at hb
                       exact hb)
                    | (have e9 := zfB_t (c := (fwc V nk si)) (l := (fun s b => fwl V nk (nI s) (nI b))) (n := i) (fw_t c_22 (Int32.not_lt.mp c_34) (Int32.not_lt.mp c_59)) (Or.inl (hz9.mp c_63))
                       have hb := ih_10 (i + 1) (by omega) (by omega)
                       rw [e9] at hb
                       exact hb)
                    | (have e9 := zfB_t (c := (fwc V nk si)) (l := (fun s b => fwl V nk (nI s) (nI b))) (n := i) (fw_t c_22 (Int32.not_lt.mp c_34) (Int32.not_lt.mp c_59)) (Or.inr ((zb_n0 _).mp c_73))
                       have hb := ih_10 (i + 1) (by omega) (by omega)
                       rw [e9] at hb
                       exact hb)
        · skip
          refine z_iload 0 d_Tb_fewestOf_25 rfl ?_
          refine z_callS0 (m_In_bitCount hs0 hst _) ym_In_bitCount qM_Tb_105 qS_In_bitCount d_Tb_fewestOf_27 rfl (Nat.le_of_ble_eq_true rfl) ⟨Nat.zero_le _, Nat.zero_le _⟩ ⟨Nat.le_of_ble_eq_true rfl, Nat.le_of_ble_eq_true rfl⟩ ?_
          refine z_aload_n 4 d_Tb_fewestOf_30 rfl rfl ?_
          refine z_get zc_Se 0 (by decide) qF_Tb_147 hS.1 rfl d_Tb_fewestOf_31 ?_
          refine z_icmp_lt 41 d_Tb_fewestOf_34 (by decide) (fun c_34 => ?_) (fun c_34 => ?_)
          · skip
            refine z_iconst (v := 0) d_Tb_fewestOf_41 (by decide) ?_
            refine z_istore (L' := [(5, _), (4, _), (3, _), (2, _), (0, _), (1, _)]) d_Tb_fewestOf_42 (by decide) rfl ?_
            refine z_iload 0 d_Tb_fewestOf_44 rfl ?_
            refine z_if_eq 79 d_Tb_fewestOf_46 (by decide) (fun c_46 => ?_) (fun c_46 => ?_)
            · skip
              refine z_iinc (v := nI (i + 1 + 1)) (L' := [(4, _), (5, _), (3, _), (2, _), (0, _), (1, _)]) 1 d_Tb_fewestOf_79 rfl (nI_1 (i + 1)) (by decide) rfl ?_
              refine z_goto 10 d_Tb_fewestOf_82 (by decide) ?_
              refine z_sub (L' := [(4, _), (3, _), (2, _), (0, _), (1, _)]) [0, 2, 3, 4, 5] rfl ?_
              first
                | (exfalso; revert c_46; decide)
                | (have e9 := zfB_f (c := (fwc V nk si)) (l := (fun s b => fwl V nk (nI s) (nI b))) (n := i) (Or.inl (fw_1 c_22))
                   have hb := ih_10 (i + 1) (by omega) (by omega)
                   rw [e9] at hb
                   exact hb)
                | (have e9 := zfB_f (c := (fwc V nk si)) (l := (fun s b => fwl V nk (nI s) (nI b))) (n := i) (Or.inl (fw_2 (Int32.not_le.mpr c_34)))
                   have hb := ih_10 (i + 1) (by omega) (by omega)
                   rw [e9] at hb
                   exact hb)
                | (have e9 := zfB_f (c := (fwc V nk si)) (l := (fun s b => fwl V nk (nI s) (nI b))) (n := i) (Or.inl (fw_3 (Int32.not_le.mpr c_59)))
                   have hb := ih_10 (i + 1) (by omega) (by omega)
                   rw [e9] at hb
                   exact hb)
                | (have e9 := zfB_f (c := (fwc V nk si)) (l := (fun s b => fwl V nk (nI s) (nI b))) (n := i) (Or.inr ⟨fun q => c_63 (congrArg nI q), (zb_0 _).mp c_73⟩)
                   have hb := ih_10 (i + 1) (by omega) (by omega)
                   rw [e9] at hb
                   exact hb)
                | (have e9 := zfB_t (c := (fwc V nk si)) (l := (fun s b => fwl V nk (nI s) (nI b))) (n := i) (fw_t c_22 (Int32.not_lt.mp c_34) (Int32.not_lt.mp c_59)) (Or.inl (hz9.mp c_63))
                   have hb := ih_10 (i + 1) (by omega) (by omega)
                   rw [e9] at hb
                   exact hb)
                | (have e9 := zfB_t (c := (fwc V nk si)) (l := (fun s b => fwl V nk (nI s) (nI b))) (n := i) (fw_t c_22 (Int32.not_lt.mp c_34) (Int32.not_lt.mp c_59)) (Or.inr ((zb_n0 _).mp c_73))
                   have hb := ih_10 (i + 1) (by omega) (by omega)
                   rw [e9] at hb
                   exact hb)
            · skip
              refine z_aload_n 4 d_Tb_fewestOf_49 rfl rfl ?_
              refine z_iload 1 d_Tb_fewestOf_50 rfl ?_
              refine z_callV0 ((m_Tb_zonesOfE hs0 hst hT (nI (i + 1)))) ym_Tb_zonesOf qM_Tb_354 qI_Tb_zonesOf qV_Tb_Tb_zonesOf zc_Tb hG_Tb d_Tb_fewestOf_52 rfl (Nat.le_of_ble_eq_true rfl) ⟨Nat.zero_le _, Nat.zero_le _⟩ ⟨Nat.le_of_ble_eq_true rfl, Nat.le_of_ble_eq_true rfl⟩ ?_
              refine z_aload_n 5 d_Tb_fewestOf_55 rfl rfl ?_
              refine z_get zc_Se 1 (by decide) qF_Tb_357 hS.1 rfl d_Tb_fewestOf_56 ?_
              refine z_icmp_lt 79 d_Tb_fewestOf_59 (by decide) (fun c_59 => ?_) (fun c_59 => ?_)
              · skip
                refine z_iinc (v := nI (i + 1 + 1)) (L' := [(4, _), (5, _), (3, _), (2, _), (0, _), (1, _)]) 1 d_Tb_fewestOf_79 rfl (nI_1 (i + 1)) (by decide) rfl ?_
                refine z_goto 10 d_Tb_fewestOf_82 (by decide) ?_
                refine z_sub (L' := [(4, _), (3, _), (2, _), (0, _), (1, _)]) [0, 2, 3, 4, 5] rfl ?_
                first
                  | (exfalso; revert c_46; decide)
                  | (have e9 := zfB_f (c := (fwc V nk si)) (l := (fun s b => fwl V nk (nI s) (nI b))) (n := i) (Or.inl (fw_1 c_22))
                     have hb := ih_10 (i + 1) (by omega) (by omega)
                     rw [e9] at hb
                     exact hb)
                  | (have e9 := zfB_f (c := (fwc V nk si)) (l := (fun s b => fwl V nk (nI s) (nI b))) (n := i) (Or.inl (fw_2 (Int32.not_le.mpr c_34)))
                     have hb := ih_10 (i + 1) (by omega) (by omega)
                     rw [e9] at hb
                     exact hb)
                  | (have e9 := zfB_f (c := (fwc V nk si)) (l := (fun s b => fwl V nk (nI s) (nI b))) (n := i) (Or.inl (fw_3 (Int32.not_le.mpr c_59)))
                     have hb := ih_10 (i + 1) (by omega) (by omega)
                     rw [e9] at hb
                     exact hb)
                  | (have e9 := zfB_f (c := (fwc V nk si)) (l := (fun s b => fwl V nk (nI s) (nI b))) (n := i) (Or.inr ⟨fun q => c_63 (congrArg nI q), (zb_0 _).mp c_73⟩)
                     have hb := ih_10 (i + 1) (by omega) (by omega)
                     rw [e9] at hb
                     exact hb)
                  | (have e9 := zfB_t (c := (fwc V nk si)) (l := (fun s b => fwl V nk (nI s) (nI b))) (n := i) (fw_t c_22 (Int32.not_lt.mp c_34) (Int32.not_lt.mp c_59)) (Or.inl (hz9.mp c_63))
                     have hb := ih_10 (i + 1) (by omega) (by omega)
                     rw [e9] at hb
                     exact hb)
                  | (have e9 := zfB_t (c := (fwc V nk si)) (l := (fun s b => fwl V nk (nI s) (nI b))) (n := i) (fw_t c_22 (Int32.not_lt.mp c_34) (Int32.not_lt.mp c_59)) (Or.inr ((zb_n0 _).mp c_73))
                     have hb := ih_10 (i + 1) (by omega) (by omega)
                     rw [e9] at hb
                     exact hb)
              · skip
                refine z_iload_n 2 d_Tb_fewestOf_62 rfl rfl ?_
                refine z_if_eq 76 d_Tb_fewestOf_63 (by decide) (fun c_63 => ?_) (fun c_63 => ?_)
                · skip
                  refine z_iload 1 d_Tb_fewestOf_76 rfl ?_
                  refine z_istore_n (L' := [(3, _), (5, _), (4, _), (2, _), (0, _), (1, _)]) d_Tb_fewestOf_78 rfl (by decide) rfl ?_
                  refine z_iinc (v := nI (i + 1 + 1)) (L' := [(4, _), (3, _), (5, _), (2, _), (0, _), (1, _)]) 2 d_Tb_fewestOf_79 rfl (nI_1 (i + 1)) (by decide) rfl ?_
                  refine z_goto 10 d_Tb_fewestOf_82 (by decide) ?_
                  refine z_sub (L' := [(4, _), (3, _), (2, _), (0, _), (1, _)]) [0, 1, 3, 4, 5] rfl ?_
                  first
                    | (exfalso; revert c_46; decide)
                    | (have e9 := zfB_f (c := (fwc V nk si)) (l := (fun s b => fwl V nk (nI s) (nI b))) (n := i) (Or.inl (fw_1 c_22))
                       have hb := ih_10 (i + 1) (by omega) (by omega)
                       rw [e9] at hb
                       exact hb)
                    | (have e9 := zfB_f (c := (fwc V nk si)) (l := (fun s b => fwl V nk (nI s) (nI b))) (n := i) (Or.inl (fw_2 (Int32.not_le.mpr c_34)))
                       have hb := ih_10 (i + 1) (by omega) (by omega)
                       rw [e9] at hb
                       exact hb)
                    | (have e9 := zfB_f (c := (fwc V nk si)) (l := (fun s b => fwl V nk (nI s) (nI b))) (n := i) (Or.inl (fw_3 (Int32.not_le.mpr c_59)))
                       have hb := ih_10 (i + 1) (by omega) (by omega)
                       rw [e9] at hb
                       exact hb)
                    | (have e9 := zfB_f (c := (fwc V nk si)) (l := (fun s b => fwl V nk (nI s) (nI b))) (n := i) (Or.inr ⟨fun q => c_63 (congrArg nI q), (zb_0 _).mp c_73⟩)
                       have hb := ih_10 (i + 1) (by omega) (by omega)
                       rw [e9] at hb
                       exact hb)
                    | (have e9 := zfB_t (c := (fwc V nk si)) (l := (fun s b => fwl V nk (nI s) (nI b))) (n := i) (fw_t c_22 (Int32.not_lt.mp c_34) (Int32.not_lt.mp c_59)) (Or.inl (hz9.mp c_63))
                       have hb := ih_10 (i + 1) (by omega) (by omega)
                       rw [e9] at hb
                       exact hb)
                    | (have e9 := zfB_t (c := (fwc V nk si)) (l := (fun s b => fwl V nk (nI s) (nI b))) (n := i) (fw_t c_22 (Int32.not_lt.mp c_34) (Int32.not_lt.mp c_59)) (Or.inr ((zb_n0 _).mp c_73))
                       have hb := ih_10 (i + 1) (by omega) (by omega)
                       rw [e9] at hb
                       exact hb)
                · skip
                  refine z_aload_n 4 d_Tb_fewestOf_66 rfl rfl ?_
                  refine z_iload 1 d_Tb_fewestOf_67 rfl ?_
                  refine z_iload_n 2 d_Tb_fewestOf_69 rfl rfl ?_
                  refine z_callV0 ((m_Tb_isLessE hs0 hst hT _ _)) ym_Tb_isLess qM_Tb_369 qI_Tb_isLess qV_Tb_Tb_isLess zc_Tb hG_Tb d_Tb_fewestOf_70 rfl (Nat.le_of_ble_eq_true rfl) ⟨Nat.zero_le _, Nat.zero_le _⟩ ⟨Nat.le_of_ble_eq_true rfl, Nat.le_of_ble_eq_true rfl⟩ ?_
                  refine z_if_eq 79 d_Tb_fewestOf_73 (by decide) (fun c_73 => ?_) (fun c_73 => ?_)
                  · skip
                    refine z_iinc (v := nI (i + 1 + 1)) (L' := [(4, _), (5, _), (3, _), (2, _), (0, _), (1, _)]) 1 d_Tb_fewestOf_79 rfl (nI_1 (i + 1)) (by decide) rfl ?_
                    refine z_goto 10 d_Tb_fewestOf_82 (by decide) ?_
                    refine z_sub (L' := [(4, _), (3, _), (2, _), (0, _), (1, _)]) [0, 2, 3, 4, 5] rfl ?_
                    first
                      | (exfalso; revert c_46; decide)
                      | (have e9 := zfB_f (c := (fwc V nk si)) (l := (fun s b => fwl V nk (nI s) (nI b))) (n := i) (Or.inl (fw_1 c_22))
                         have hb := ih_10 (i + 1) (by omega) (by omega)
                         rw [e9] at hb
                         exact hb)
                      | (have e9 := zfB_f (c := (fwc V nk si)) (l := (fun s b => fwl V nk (nI s) (nI b))) (n := i) (Or.inl (fw_2 (Int32.not_le.mpr c_34)))
                         have hb := ih_10 (i + 1) (by omega) (by omega)
                         rw [e9] at hb
                         exact hb)
                      | (have e9 := zfB_f (c := (fwc V nk si)) (l := (fun s b => fwl V nk (nI s) (nI b))) (n := i) (Or.inl (fw_3 (Int32.not_le.mpr c_59)))
                         have hb := ih_10 (i + 1) (by omega) (by omega)
                         rw [e9] at hb
                         exact hb)
                      | (have e9 := zfB_f (c := (fwc V nk si)) (l := (fun s b => fwl V nk (nI s) (nI b))) (n := i) (Or.inr ⟨fun q => c_63 (congrArg nI q), (zb_0 _).mp c_73⟩)
                         have hb := ih_10 (i + 1) (by omega) (by omega)
                         rw [e9] at hb
                         exact hb)
                      | (have e9 := zfB_t (c := (fwc V nk si)) (l := (fun s b => fwl V nk (nI s) (nI b))) (n := i) (fw_t c_22 (Int32.not_lt.mp c_34) (Int32.not_lt.mp c_59)) (Or.inl (hz9.mp c_63))
                         have hb := ih_10 (i + 1) (by omega) (by omega)
                         rw [e9] at hb
                         exact hb)
                      | (have e9 := zfB_t (c := (fwc V nk si)) (l := (fun s b => fwl V nk (nI s) (nI b))) (n := i) (fw_t c_22 (Int32.not_lt.mp c_34) (Int32.not_lt.mp c_59)) (Or.inr ((zb_n0 _).mp c_73))
                         have hb := ih_10 (i + 1) (by omega) (by omega)
                         rw [e9] at hb
                         exact hb)
                  · skip
                    refine z_iload 1 d_Tb_fewestOf_76 rfl ?_
                    refine z_istore_n (L' := [(3, _), (5, _), (4, _), (2, _), (0, _), (1, _)]) d_Tb_fewestOf_78 rfl (by decide) rfl ?_
                    refine z_iinc (v := nI (i + 1 + 1)) (L' := [(4, _), (3, _), (5, _), (2, _), (0, _), (1, _)]) 2 d_Tb_fewestOf_79 rfl (nI_1 (i + 1)) (by decide) rfl ?_
                    refine z_goto 10 d_Tb_fewestOf_82 (by decide) ?_
                    refine z_sub (L' := [(4, _), (3, _), (2, _), (0, _), (1, _)]) [0, 1, 3, 4, 5] rfl ?_
                    first
                      | (exfalso; revert c_46; decide)
                      | (have e9 := zfB_f (c := (fwc V nk si)) (l := (fun s b => fwl V nk (nI s) (nI b))) (n := i) (Or.inl (fw_1 c_22))
                         have hb := ih_10 (i + 1) (by omega) (by omega)
                         rw [e9] at hb
                         exact hb)
                      | (have e9 := zfB_f (c := (fwc V nk si)) (l := (fun s b => fwl V nk (nI s) (nI b))) (n := i) (Or.inl (fw_2 (Int32.not_le.mpr c_34)))
                         have hb := ih_10 (i + 1) (by omega) (by omega)
                         rw [e9] at hb
                         exact hb)
                      | (have e9 := zfB_f (c := (fwc V nk si)) (l := (fun s b => fwl V nk (nI s) (nI b))) (n := i) (Or.inl (fw_3 (Int32.not_le.mpr c_59)))
                         have hb := ih_10 (i + 1) (by omega) (by omega)
                         rw [e9] at hb
                         exact hb)
                      | (have e9 := zfB_f (c := (fwc V nk si)) (l := (fun s b => fwl V nk (nI s) (nI b))) (n := i) (Or.inr ⟨fun q => c_63 (congrArg nI q), (zb_0 _).mp c_73⟩)
                         have hb := ih_10 (i + 1) (by omega) (by omega)
                         rw [e9] at hb
                         exact hb)
                      | (have e9 := zfB_t (c := (fwc V nk si)) (l := (fun s b => fwl V nk (nI s) (nI b))) (n := i) (fw_t c_22 (Int32.not_lt.mp c_34) (Int32.not_lt.mp c_59)) (Or.inl (hz9.mp c_63))
                         have hb := ih_10 (i + 1) (by omega) (by omega)
                         rw [e9] at hb
                         exact hb)
                      | (have e9 := zfB_t (c := (fwc V nk si)) (l := (fun s b => fwl V nk (nI s) (nI b))) (n := i) (fw_t c_22 (Int32.not_lt.mp c_34) (Int32.not_lt.mp c_59)) (Or.inr ((zb_n0 _).mp c_73))
                         have hb := ih_10 (i + 1) (by omega) (by omega)
                         rw [e9] at hb
                         exact hb)
          · skip
            refine z_iconst (v := 1) d_Tb_fewestOf_37 (by decide) ?_
            refine z_goto 42 d_Tb_fewestOf_38 (by decide) ?_
            refine z_istore (L' := [(5, _), (4, _), (3, _), (2, _), (0, _), (1, _)]) d_Tb_fewestOf_42 (by decide) rfl ?_
            refine z_iload 0 d_Tb_fewestOf_44 rfl ?_
            refine z_if_eq 79 d_Tb_fewestOf_46 (by decide) (fun c_46 => ?_) (fun c_46 => ?_)
            · skip
              refine z_iinc (v := nI (i + 1 + 1)) (L' := [(4, _), (5, _), (3, _), (2, _), (0, _), (1, _)]) 1 d_Tb_fewestOf_79 rfl (nI_1 (i + 1)) (by decide) rfl ?_
              refine z_goto 10 d_Tb_fewestOf_82 (by decide) ?_
              refine z_sub (L' := [(4, _), (3, _), (2, _), (0, _), (1, _)]) [0, 2, 3, 4, 5] rfl ?_
              first
                | (exfalso; revert c_46; decide)
                | (have e9 := zfB_f (c := (fwc V nk si)) (l := (fun s b => fwl V nk (nI s) (nI b))) (n := i) (Or.inl (fw_1 c_22))
                   have hb := ih_10 (i + 1) (by omega) (by omega)
                   rw [e9] at hb
                   exact hb)
                | (have e9 := zfB_f (c := (fwc V nk si)) (l := (fun s b => fwl V nk (nI s) (nI b))) (n := i) (Or.inl (fw_2 (Int32.not_le.mpr c_34)))
                   have hb := ih_10 (i + 1) (by omega) (by omega)
                   rw [e9] at hb
                   exact hb)
                | (have e9 := zfB_f (c := (fwc V nk si)) (l := (fun s b => fwl V nk (nI s) (nI b))) (n := i) (Or.inl (fw_3 (Int32.not_le.mpr c_59)))
                   have hb := ih_10 (i + 1) (by omega) (by omega)
                   rw [e9] at hb
                   exact hb)
                | (have e9 := zfB_f (c := (fwc V nk si)) (l := (fun s b => fwl V nk (nI s) (nI b))) (n := i) (Or.inr ⟨fun q => c_63 (congrArg nI q), (zb_0 _).mp c_73⟩)
                   have hb := ih_10 (i + 1) (by omega) (by omega)
                   rw [e9] at hb
                   exact hb)
                | (have e9 := zfB_t (c := (fwc V nk si)) (l := (fun s b => fwl V nk (nI s) (nI b))) (n := i) (fw_t c_22 (Int32.not_lt.mp c_34) (Int32.not_lt.mp c_59)) (Or.inl (hz9.mp c_63))
                   have hb := ih_10 (i + 1) (by omega) (by omega)
                   rw [e9] at hb
                   exact hb)
                | (have e9 := zfB_t (c := (fwc V nk si)) (l := (fun s b => fwl V nk (nI s) (nI b))) (n := i) (fw_t c_22 (Int32.not_lt.mp c_34) (Int32.not_lt.mp c_59)) (Or.inr ((zb_n0 _).mp c_73))
                   have hb := ih_10 (i + 1) (by omega) (by omega)
                   rw [e9] at hb
                   exact hb)
            · skip
              refine z_aload_n 4 d_Tb_fewestOf_49 rfl rfl ?_
              refine z_iload 1 d_Tb_fewestOf_50 rfl ?_
              refine z_callV0 ((m_Tb_zonesOfE hs0 hst hT (nI (i + 1)))) ym_Tb_zonesOf qM_Tb_354 qI_Tb_zonesOf qV_Tb_Tb_zonesOf zc_Tb hG_Tb d_Tb_fewestOf_52 rfl (Nat.le_of_ble_eq_true rfl) ⟨Nat.zero_le _, Nat.zero_le _⟩ ⟨Nat.le_of_ble_eq_true rfl, Nat.le_of_ble_eq_true rfl⟩ ?_
              refine z_aload_n 5 d_Tb_fewestOf_55 rfl rfl ?_
              refine z_get zc_Se 1 (by decide) qF_Tb_357 hS.1 rfl d_Tb_fewestOf_56 ?_
              refine z_icmp_lt 79 d_Tb_fewestOf_59 (by decide) (fun c_59 => ?_) (fun c_59 => ?_)
              · skip
                refine z_iinc (v := nI (i + 1 + 1)) (L' := [(4, _), (5, _), (3, _), (2, _), (0, _), (1, _)]) 1 d_Tb_fewestOf_79 rfl (nI_1 (i + 1)) (by decide) rfl ?_
                refine z_goto 10 d_Tb_fewestOf_82 (by decide) ?_
                refine z_sub (L' := [(4, _), (3, _), (2, _), (0, _), (1, _)]) [0, 2, 3, 4, 5] rfl ?_
                first
                  | (exfalso; revert c_46; decide)
                  | (have e9 := zfB_f (c := (fwc V nk si)) (l := (fun s b => fwl V nk (nI s) (nI b))) (n := i) (Or.inl (fw_1 c_22))
                     have hb := ih_10 (i + 1) (by omega) (by omega)
                     rw [e9] at hb
                     exact hb)
                  | (have e9 := zfB_f (c := (fwc V nk si)) (l := (fun s b => fwl V nk (nI s) (nI b))) (n := i) (Or.inl (fw_2 (Int32.not_le.mpr c_34)))
                     have hb := ih_10 (i + 1) (by omega) (by omega)
                     rw [e9] at hb
                     exact hb)
                  | (have e9 := zfB_f (c := (fwc V nk si)) (l := (fun s b => fwl V nk (nI s) (nI b))) (n := i) (Or.inl (fw_3 (Int32.not_le.mpr c_59)))
                     have hb := ih_10 (i + 1) (by omega) (by omega)
                     rw [e9] at hb
                     exact hb)
                  | (have e9 := zfB_f (c := (fwc V nk si)) (l := (fun s b => fwl V nk (nI s) (nI b))) (n := i) (Or.inr ⟨fun q => c_63 (congrArg nI q), (zb_0 _).mp c_73⟩)
                     have hb := ih_10 (i + 1) (by omega) (by omega)
                     rw [e9] at hb
                     exact hb)
                  | (have e9 := zfB_t (c := (fwc V nk si)) (l := (fun s b => fwl V nk (nI s) (nI b))) (n := i) (fw_t c_22 (Int32.not_lt.mp c_34) (Int32.not_lt.mp c_59)) (Or.inl (hz9.mp c_63))
                     have hb := ih_10 (i + 1) (by omega) (by omega)
                     rw [e9] at hb
                     exact hb)
                  | (have e9 := zfB_t (c := (fwc V nk si)) (l := (fun s b => fwl V nk (nI s) (nI b))) (n := i) (fw_t c_22 (Int32.not_lt.mp c_34) (Int32.not_lt.mp c_59)) (Or.inr ((zb_n0 _).mp c_73))
                     have hb := ih_10 (i + 1) (by omega) (by omega)
                     rw [e9] at hb
                     exact hb)
              · skip
                refine z_iload_n 2 d_Tb_fewestOf_62 rfl rfl ?_
                refine z_if_eq 76 d_Tb_fewestOf_63 (by decide) (fun c_63 => ?_) (fun c_63 => ?_)
                · skip
                  refine z_iload 1 d_Tb_fewestOf_76 rfl ?_
                  refine z_istore_n (L' := [(3, _), (5, _), (4, _), (2, _), (0, _), (1, _)]) d_Tb_fewestOf_78 rfl (by decide) rfl ?_
                  refine z_iinc (v := nI (i + 1 + 1)) (L' := [(4, _), (3, _), (5, _), (2, _), (0, _), (1, _)]) 2 d_Tb_fewestOf_79 rfl (nI_1 (i + 1)) (by decide) rfl ?_
                  refine z_goto 10 d_Tb_fewestOf_82 (by decide) ?_
                  refine z_sub (L' := [(4, _), (3, _), (2, _), (0, _), (1, _)]) [0, 1, 3, 4, 5] rfl ?_
                  first
                    | (exfalso; revert c_46; decide)
                    | (have e9 := zfB_f (c := (fwc V nk si)) (l := (fun s b => fwl V nk (nI s) (nI b))) (n := i) (Or.inl (fw_1 c_22))
                       have hb := ih_10 (i + 1) (by omega) (by omega)
                       rw [e9] at hb
                       exact hb)
                    | (have e9 := zfB_f (c := (fwc V nk si)) (l := (fun s b => fwl V nk (nI s) (nI b))) (n := i) (Or.inl (fw_2 (Int32.not_le.mpr c_34)))
                       have hb := ih_10 (i + 1) (by omega) (by omega)
                       rw [e9] at hb
                       exact hb)
                    | (have e9 := zfB_f (c := (fwc V nk si)) (l := (fun s b => fwl V nk (nI s) (nI b))) (n := i) (Or.inl (fw_3 (Int32.not_le.mpr c_59)))
                       have hb := ih_10 (i + 1) (by omega) (by omega)
                       rw [e9] at hb
                       exact hb)
                    | (have e9 := zfB_f (c := (fwc V nk si)) (l := (fun s b => fwl V nk (nI s) (nI b))) (n := i) (Or.inr ⟨fun q => c_63 (congrArg nI q), (zb_0 _).mp c_73⟩)
                       have hb := ih_10 (i + 1) (by omega) (by omega)
                       rw [e9] at hb
                       exact hb)
                    | (have e9 := zfB_t (c := (fwc V nk si)) (l := (fun s b => fwl V nk (nI s) (nI b))) (n := i) (fw_t c_22 (Int32.not_lt.mp c_34) (Int32.not_lt.mp c_59)) (Or.inl (hz9.mp c_63))
                       have hb := ih_10 (i + 1) (by omega) (by omega)
                       rw [e9] at hb
                       exact hb)
                    | (have e9 := zfB_t (c := (fwc V nk si)) (l := (fun s b => fwl V nk (nI s) (nI b))) (n := i) (fw_t c_22 (Int32.not_lt.mp c_34) (Int32.not_lt.mp c_59)) (Or.inr ((zb_n0 _).mp c_73))
                       have hb := ih_10 (i + 1) (by omega) (by omega)
                       rw [e9] at hb
                       exact hb)
                · skip
                  refine z_aload_n 4 d_Tb_fewestOf_66 rfl rfl ?_
                  refine z_iload 1 d_Tb_fewestOf_67 rfl ?_
                  refine z_iload_n 2 d_Tb_fewestOf_69 rfl rfl ?_
                  refine z_callV0 ((m_Tb_isLessE hs0 hst hT _ _)) ym_Tb_isLess qM_Tb_369 qI_Tb_isLess qV_Tb_Tb_isLess zc_Tb hG_Tb d_Tb_fewestOf_70 rfl (Nat.le_of_ble_eq_true rfl) ⟨Nat.zero_le _, Nat.zero_le _⟩ ⟨Nat.le_of_ble_eq_true rfl, Nat.le_of_ble_eq_true rfl⟩ ?_
                  refine z_if_eq 79 d_Tb_fewestOf_73 (by decide) (fun c_73 => ?_) (fun c_73 => ?_)
                  · skip
                    refine z_iinc (v := nI (i + 1 + 1)) (L' := [(4, _), (5, _), (3, _), (2, _), (0, _), (1, _)]) 1 d_Tb_fewestOf_79 rfl (nI_1 (i + 1)) (by decide) rfl ?_
                    refine z_goto 10 d_Tb_fewestOf_82 (by decide) ?_
                    refine z_sub (L' := [(4, _), (3, _), (2, _), (0, _), (1, _)]) [0, 2, 3, 4, 5] rfl ?_
                    first
                      | (exfalso; revert c_46; decide)
                      | (have e9 := zfB_f (c := (fwc V nk si)) (l := (fun s b => fwl V nk (nI s) (nI b))) (n := i) (Or.inl (fw_1 c_22))
                         have hb := ih_10 (i + 1) (by omega) (by omega)
                         rw [e9] at hb
                         exact hb)
                      | (have e9 := zfB_f (c := (fwc V nk si)) (l := (fun s b => fwl V nk (nI s) (nI b))) (n := i) (Or.inl (fw_2 (Int32.not_le.mpr c_34)))
                         have hb := ih_10 (i + 1) (by omega) (by omega)
                         rw [e9] at hb
                         exact hb)
                      | (have e9 := zfB_f (c := (fwc V nk si)) (l := (fun s b => fwl V nk (nI s) (nI b))) (n := i) (Or.inl (fw_3 (Int32.not_le.mpr c_59)))
                         have hb := ih_10 (i + 1) (by omega) (by omega)
                         rw [e9] at hb
                         exact hb)
                      | (have e9 := zfB_f (c := (fwc V nk si)) (l := (fun s b => fwl V nk (nI s) (nI b))) (n := i) (Or.inr ⟨fun q => c_63 (congrArg nI q), (zb_0 _).mp c_73⟩)
                         have hb := ih_10 (i + 1) (by omega) (by omega)
                         rw [e9] at hb
                         exact hb)
                      | (have e9 := zfB_t (c := (fwc V nk si)) (l := (fun s b => fwl V nk (nI s) (nI b))) (n := i) (fw_t c_22 (Int32.not_lt.mp c_34) (Int32.not_lt.mp c_59)) (Or.inl (hz9.mp c_63))
                         have hb := ih_10 (i + 1) (by omega) (by omega)
                         rw [e9] at hb
                         exact hb)
                      | (have e9 := zfB_t (c := (fwc V nk si)) (l := (fun s b => fwl V nk (nI s) (nI b))) (n := i) (fw_t c_22 (Int32.not_lt.mp c_34) (Int32.not_lt.mp c_59)) (Or.inr ((zb_n0 _).mp c_73))
                         have hb := ih_10 (i + 1) (by omega) (by omega)
                         rw [e9] at hb
                         exact hb)
                  · skip
                    refine z_iload 1 d_Tb_fewestOf_76 rfl ?_
                    refine z_istore_n (L' := [(3, _), (5, _), (4, _), (2, _), (0, _), (1, _)]) d_Tb_fewestOf_78 rfl (by decide) rfl ?_
                    refine z_iinc (v := nI (i + 1 + 1)) (L' := [(4, _), (3, _), (5, _), (2, _), (0, _), (1, _)]) 2 d_Tb_fewestOf_79 rfl (nI_1 (i + 1)) (by decide) rfl ?_
                    refine z_goto 10 d_Tb_fewestOf_82 (by decide) ?_
                    refine z_sub (L' := [(4, _), (3, _), (2, _), (0, _), (1, _)]) [0, 1, 3, 4, 5] rfl ?_
                    first
                      | (exfalso; revert c_46; decide)
                      | (have e9 := zfB_f (c := (fwc V nk si)) (l := (fun s b => fwl V nk (nI s) (nI b))) (n := i) (Or.inl (fw_1 c_22))
                         have hb := ih_10 (i + 1) (by omega) (by omega)
                         rw [e9] at hb
                         exact hb)
                      | (have e9 := zfB_f (c := (fwc V nk si)) (l := (fun s b => fwl V nk (nI s) (nI b))) (n := i) (Or.inl (fw_2 (Int32.not_le.mpr c_34)))
                         have hb := ih_10 (i + 1) (by omega) (by omega)
                         rw [e9] at hb
                         exact hb)
                      | (have e9 := zfB_f (c := (fwc V nk si)) (l := (fun s b => fwl V nk (nI s) (nI b))) (n := i) (Or.inl (fw_3 (Int32.not_le.mpr c_59)))
                         have hb := ih_10 (i + 1) (by omega) (by omega)
                         rw [e9] at hb
                         exact hb)
                      | (have e9 := zfB_f (c := (fwc V nk si)) (l := (fun s b => fwl V nk (nI s) (nI b))) (n := i) (Or.inr ⟨fun q => c_63 (congrArg nI q), (zb_0 _).mp c_73⟩)
                         have hb := ih_10 (i + 1) (by omega) (by omega)
                         rw [e9] at hb
                         exact hb)
                      | (have e9 := zfB_t (c := (fwc V nk si)) (l := (fun s b => fwl V nk (nI s) (nI b))) (n := i) (fw_t c_22 (Int32.not_lt.mp c_34) (Int32.not_lt.mp c_59)) (Or.inl (hz9.mp c_63))
                         have hb := ih_10 (i + 1) (by omega) (by omega)
                         rw [e9] at hb
                         exact hb)
                      | (have e9 := zfB_t (c := (fwc V nk si)) (l := (fun s b => fwl V nk (nI s) (nI b))) (n := i) (fw_t c_22 (Int32.not_lt.mp c_34) (Int32.not_lt.mp c_59)) (Or.inr ((zb_n0 _).mp c_73))
                         have hb := ih_10 (i + 1) (by omega) (by omega)
                         rw [e9] at hb
                         exact hb)
  exact key_10 ((zsetN (zcur (V (400 + si)) (V (200 + si) 3)) 8) + 2) 0 (by omega) (by omega)
set_option maxHeartbeats 4000000 in
set_option maxRecDepth 100000 in
theorem m_Tb_fewestE {g0 : State} {d : zD} {l : Launch} {a0 : Array Value} (hs0 : zS0 d a0 g0) (hst : l.stackTraces = false) {G : zG} {A : Nat → Nat} {D : Nat → UInt64} {V : Nat → Nat → Int32} {nk ns : Nat} (hT : zT d A D V nk ns G) (x : Int32) : zMet g0 d l y_Tb_fewest c_Tb_fewest 2 ((Option.some Jvm.ClassFile.FieldType.int)) 14 1 6 [.ref (A 0), .int x] (G) (zTu d A nk ns V G (fun r => ∃ v, r = some (.int v) ∧ tFw V nk ns x v)) (zXo d A nk ns V G (fun E => zoo ns x ∧ E = "java/lang/IndexOutOfBoundsException")) := by
  have hG_Tb := hT.tb
  have hnk : nk ≤ 8 := hT.2.1
  have hns : ns ≤ 6 := hT.2.2.1
  refine z_entry hs0 hst (by decide) (Nat.le_of_ble_eq_true rfl) (fun p e s m args below meth c => ?_)
  refine z_aload_n 0 d_Tb_fewest_0 rfl rfl ?_
  refine z_aload_n 0 d_Tb_fewest_1 rfl rfl ?_
  refine z_iload_n 1 d_Tb_fewest_2 rfl rfl ?_
  refine z_callV (m_Tb_secretAt hs0 hst hT x) ym_Tb_secretAt qM_Tb_140 qI_Tb_secretAt qV_Tb_Tb_secretAt zc_Tb hG_Tb d_Tb_fewest_3 rfl (Nat.le_of_ble_eq_true rfl) ⟨by decide, by decide⟩ ⟨Nat.le_of_ble_eq_true rfl, Nat.le_of_ble_eq_true rfl⟩ ?_ ?_
  · exact fun E G9 hx => by
      obtain ⟨hx1, rfl, hx3⟩ := hx
      obtain rfl : G = G9 := hx3.symm
      exact z_out ⟨⟨hx1, rfl⟩, D, V, hT, zKo.rf, zFr.rf⟩ (by decide) (by decide)
  intro r_3 G_3 hp_3
  obtain ⟨si, hsi, rfl, rfl, hg_3⟩ := hp_3
  obtain rfl : G = G_3 := hg_3.symm
  refine z_callV0 ((m_Tb_fewestOfE hs0 hst hT hsi)) ym_Tb_fewestOf qM_Tb_298 qI_Tb_fewestOf qV_Tb_Tb_fewestOf zc_Tb hG_Tb d_Tb_fewest_6 rfl (Nat.le_of_ble_eq_true rfl) ⟨by decide, by decide⟩ ⟨Nat.le_of_ble_eq_true rfl, Nat.le_of_ble_eq_true rfl⟩ ?_
  exact z_iret rfl (⟨⟨_, rfl, si, hsi, rfl, rfl⟩, D, V, hT, zKo.rf, zFr.rf⟩) (by first | decide | omega) (by first | decide | omega) d_Tb_fewest_9
