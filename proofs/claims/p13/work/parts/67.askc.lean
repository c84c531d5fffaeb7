
/-! what is asked, exactly: the class's answer by T, what is thrown by P; the reference's by T -/
def cAs (V : Nat → Nat → Int32) (T P : Int32 → Prop) (kk : Int32) (V' : Nat → Nat → Int32) (v : Int32) : Prop := zKo V V' ∧ ((kk = 0 ∧ T v) ∨ (kk ≠ 0 ∧ P kk))
def mAq (d : zD) (B : Nat → Nat) (nk ns ne ec : Nat) (V : Nat → Nat → Int32) (G : zG) (T : Int32 → Int32 → (Nat → Nat → Int32) → Prop) : Option Value → zG → Prop := fun r G1 => ∃ (v : Int32) (W' : Nat → Nat → Int32), r = some (.int v) ∧ T (W' 0 0) v W' ∧ zM d B W' nk ns ne ec G1 ∧ zKn V W' ∧ mFr B nk ns ne G G1

/-- the sum over a set -/
def zpri (set : Int32) (p : Nat → Int32) : Nat → Int32
  | 0 => nI 0
  | n + 1 => if zbt set n = true then zpri set p n + p n else zpri set p n
theorem zpri_t {set : Int32} {p : Nat → Int32} {n : Nat} (h : zbt set n = true) : zpri set p n + p n = zpri set p (n + 1) := (if_pos h).symm
theorem zpri_f {set : Int32} {p : Nat → Int32} {n : Nat} (h : zbt set n = false) : zpri set p n = zpri set p (n + 1) := (if_neg (by rw [h]; decide)).symm
/-- the cheapest of the first n, by one more; 0: there is none -/
def zch (f : Nat → Bool) (p : Nat → Int32) : Nat → Nat
  | 0 => 0
  | n + 1 => if f n = true ∧ (zch f p n = 0 ∨ p n < p (zch f p n - 1)) then n + 1 else zch f p n
theorem zch_le (f : Nat → Bool) (p : Nat → Int32) : ∀ n, zch f p n ≤ n
  | 0 => Nat.le_refl _
  | n + 1 => by
    have := zch_le f p n
    unfold zch
    split <;> omega
theorem zch_t {f : Nat → Bool} {p : Nat → Int32} {n : Nat} (h : f n = true) (h2 : zch f p n = 0 ∨ p n < p (zch f p n - 1)) : zch f p (n + 1) = n + 1 := if_pos ⟨h, h2⟩
theorem zch_f {f : Nat → Bool} {p : Nat → Int32} {n : Nat} (h : f n = false ∨ ¬ (zch f p n = 0 ∨ p n < p (zch f p n - 1))) : zch f p (n + 1) = zch f p n := if_neg (fun q => h.elim (fun e => by rw [q.1] at e; cases e) (fun e => e q.2))
def zc1 : Nat → Int32
  | 0 => 0
  | b + 1 => 1 <<< (nI b &&& 31)
def zc2 (p : Nat → Int32) : Nat → Int32
  | 0 => 0
  | b + 1 => p b
theorem zc1_0 : ∀ b, b < 10 → (zc1 b = 0 ↔ b = 0) := by decide +kernel
theorem zc2_p {p : Nat → Int32} {b : Nat} (h : b ≠ 0) : zc2 p b = p (b - 1) := by
  cases b with
  | zero => exact absurd rfl h
  | succ b => rfl
/-- a set with one more -/
def zput (B : Nat) : Nat → Nat
  | 0 => B
  | b + 1 => B ||| 1 <<< b
theorem zput_c {B b : Nat} (hB : B < 512) (hb : b ≤ 9) : nI B ||| zc1 b = nI (zput B b) ∧ zput B b < 512 := by
  cases b with
  | zero => exact ⟨Int32.or_zero, hB⟩
  | succ b => exact zor_lt B hB b (by omega)
/-- what is left of a set -/
def zlft (h B : Nat) : Nat := zsetN (fun k => h.testBit k && !B.testBit k) 9
theorem zlft_lt (h B : Nat) : zlft h B < 512 := (zset_N _ 9 (by decide)).2
theorem zlft_at {h B k : Nat} (hk : k < 9) : (zlft h B).testBit k = (h.testBit k && !B.testBit k) := by
  unfold zlft
  rw [zsN_at _ 9 (by decide) k hk, decide_eq_true hk, Bool.true_and]
theorem zlft_0 {h : Nat} (hh : h < 512) : zlft h 0 = h := tb_ext (zlft_lt h 0) hh fun k hk => by rw [zlft_at hk, Nat.zero_testBit, Bool.not_false, Bool.and_true]
theorem zput_at {B b : Nat} (hB : B < 512) (hb : b ≤ 9) {k : Nat} (hk : k < 9) : (zput B b).testBit k = (B.testBit k || decide (b = k + 1)) := by
  cases b with
  | zero => show B.testBit k = _; rw [decide_eq_false (by omega), Bool.or_false]
  | succ b =>
    have key : ∀ b, b < 9 → ∀ k, k < 9 → (1 <<< b).testBit k = decide (b + 1 = k + 1) := by decide +kernel
    show (B ||| 1 <<< b).testBit k = _
    rw [Nat.testBit_or, key b (by omega) k hk]
theorem zlft_c {h B b : Nat} (hB : B < 512) (hb : b ≤ 9) : nI (zlft h B) &&& (zc1 b ^^^ (-1)) = nI (zlft h (zput B b)) := by
  have e : zc1 b = nI (zput 0 b) := by
    have := (zput_c (B := 0) (b := b) (by decide) hb).1
    rw [nI_0, Int32.zero_or] at this
    exact this
  have hp : zput 0 b < 512 := (zput_c (B := 0) (b := b) (by decide) hb).2
  rw [e, nI_andn (zlft_lt h B) hp]
  refine congrArg nI (tb_ext (zset_N _ 9 (by decide)).2 (zlft_lt _ _) fun k hk => ?_)
  rw [zsN_at _ 9 (by decide) k hk, decide_eq_true hk, Bool.true_and, zlft_at hk, zlft_at hk, zput_at (by decide) hb hk, zput_at hB hb hk, Nat.zero_testBit, Bool.false_or, Bool.not_or, Bool.and_assoc]
/-- the cheapest n of a set, one after another -/
def zbB (h nk : Nat) (p : Nat → Int32) : Nat → Nat
  | 0 => 0
  | n + 1 => zput (zbB h nk p n) (zch (fun k => (zlft h (zbB h nk p n)).testBit k) p nk)
theorem zbB_lt {h nk : Nat} (hk : nk ≤ 8) (p : Nat → Int32) : ∀ n, zbB h nk p n < 512
  | 0 => by show (0 : Nat) < 512; decide
  | n + 1 => (zput_c (zbB_lt hk p n) (by have := zch_le (fun k => (zlft h (zbB h nk p n)).testBit k) p nk; omega)).2
def zBo (h nk t : Nat) (p : Nat → Int32) : Int32 := if nI t ≤ nI (zpop 9 h) then nI (zbB h nk p t) else 0

/-- what is told of a secret: class -/
def qSe (V : Nat → Nat → Int32) (nk si t : Nat) (w : Int32) : Int32 := if w = 0 then V (200 + si) 0 else if w = 1 then V (200 + si) 1 else if w = 2 then V (200 + si) 2 else if w = 3 then V (200 + si) 3 else if w = 4 then zset (zcur (V (400 + si)) (V (200 + si) 3)) 8 else if w = 5 then zset (zstl (V (400 + si)) (V (200 + si) 3)) 8 else if w = 6 then zbc (V (200 + si) 4) else if w = 7 then (if zBo (zsetN (zcur (V (400 + si)) (V (200 + si) 3)) 8) nk t (fun k => V (100 + k) 2) = 0 then -1 else zpri (zBo (zsetN (zcur (V (400 + si)) (V (200 + si) 3)) 8) nk t (fun k => V (100 + k) 2)) (fun k => V (100 + k) 2) nk) else zBo (zsetN (zcur (V (400 + si)) (V (200 + si) 3)) 8) nk t (fun k => V (100 + k) 2)
def tSe (V : Nat → Nat → Int32) (nk ns : Nat) (x w v : Int32) : Prop := ∃ si, si < ns ∧ x = nI si ∧ zin w 0 8 = true ∧ ∃ t, 1 ≤ t ∧ t ≤ 4 ∧ V (200 + si) 0 = nI t ∧ v = qSe V nk si t w
def pSe (ns : Nat) (x w kk : Int32) : Prop := (zoo ns x ∧ kk = 1) ∨ (∃ si, si < ns ∧ x = nI si ∧ zin w 0 8 = false ∧ kk = 2)

set_option maxHeartbeats 4000000 in
set_option maxRecDepth 100000 in
theorem m_Tb_priceOfE {g0 : State} {d : zD} {l : Launch} {a0 : Array Value} (hs0 : zS0 d a0 g0) (hst : l.stackTraces = false) {G : zG} {A : Nat → Nat} {D : Nat → UInt64} {V : Nat → Nat → Int32} {nk ns : Nat} (hT : zT d A D V nk ns G) (set : Int32) : zMet g0 d l y_Tb_priceOf c_Tb_priceOf 4 ((Option.some Jvm.ClassFile.FieldType.int)) 11 0 0 [.ref (A 0), .int set] (G) (zEq (some (.int (zpri set (fun k => V (100 + k) 2) nk))) G) (zNo) := by
  have hG_Tb := hT.tb
  have hnk : nk ≤ 8 := hT.2.1
  have hns : ns ≤ 6 := hT.2.2.1
  refine z_entry hs0 hst (by decide) (Nat.le_of_ble_eq_true rfl) (fun p e s m args below meth c => ?_)
  refine z_iconst (v := (nI 0)) d_Tb_priceOf_0 (by decide) ?_
  refine z_istore_n (L' := [(2, _), (0, _), (1, _)]) d_Tb_priceOf_1 rfl (by decide) rfl ?_
  refine z_iconst (v := (nI 0)) d_Tb_priceOf_2 (by decide) ?_
  refine z_istore_n (L' := [(3, _), (2, _), (0, _), (1, _)]) d_Tb_priceOf_3 rfl (by decide) rfl ?_
  have key_4 : ∀ (n : Nat) (i : Nat), nk - i < n → (i ≤ nk) → Z g0 d y_Tb_priceOf c_Tb_priceOf 4 ((Option.some Jvm.ClassFile.FieldType.int)) [] p l e (zR 11 0 0) s m args below meth c (vx_MQ below (zQc g0 d (zEq (some (.int (zpri set (fun k => V (100 + k) 2) nk))) G)) (zXc g0 d (zNo)) args s 0 0 (zA g0)) 0 0 (G) [(3, .int (nI i)), (2, .int (zpri set (fun k => V (100 + k) 2) i)), (0, .ref (A 0)), (1, .int set)] [] 4 := by
    intro n
    induction n with
    | zero => intro i h0; exact absurd h0 (Nat.not_lt_zero _)
    | succ n ih_4 =>
      intro i hm_4 hi
      refine z_iload_n 0 d_Tb_priceOf_4 rfl rfl ?_
      refine z_aload_n 2 d_Tb_priceOf_5 rfl rfl ?_
      refine z_get zc_Tb 0 (by decide) qF_Tb_10 hG_Tb rfl d_Tb_priceOf_6 ?_
      refine z_callV0 (m_AL_size hs0 hst hT.kl) ym_AL_size qM_Tb_68 qI_AL_size qV_AL_AL_size zc_AL hT.kl d_Tb_priceOf_9 rfl (Nat.le_of_ble_eq_true rfl) ⟨Nat.zero_le _, Nat.zero_le _⟩ ⟨Nat.le_of_ble_eq_true rfl, Nat.le_of_ble_eq_true rfl⟩ ?_
      refine z_icmp_ge 46 d_Tb_priceOf_12 (by decide) (fun c_12 => ?_) (fun c_12 => ?_)
      · skip
        obtain rfl : nk = i := by
          have := (nI_leI (a := nk) (b := i) (by omega) (by omega)).mp c_12
          omega
        refine z_iload_n 1 d_Tb_priceOf_46 rfl rfl ?_
        exact z_iret rfl (⟨rfl, rfl⟩) (by first | decide | omega) (by first | decide | omega) d_Tb_priceOf_47
      · skip
        have hi6 : i < nk := Nat.lt_of_not_le fun q => c_12 (nI_le q (by omega))
        refine z_iload_n 3 d_Tb_priceOf_15 rfl rfl ?_
        refine z_iload_n 0 d_Tb_priceOf_16 rfl rfl ?_
        refine z_callS0 (m_Tb_isIn hs0 hst set (nI i)) ym_Tb_isIn qM_Tb_124 qS_Tb_isIn d_Tb_priceOf_17 rfl (Nat.le_of_ble_eq_true rfl) ⟨Nat.zero_le _, Nat.zero_le _⟩ ⟨Nat.le_of_ble_eq_true rfl, Nat.le_of_ble_eq_true rfl⟩ ?_
        refine z_if_eq 40 d_Tb_priceOf_20 (by decide) (fun c_20 => ?_) (fun c_20 => ?_)
        · skip
          rw [zpri_f (p := (fun k => V (100 + k) 2)) (show zbt set i = false from (zb_0 _).mp c_20)]
          refine z_iinc (v := nI (i + 1)) (L' := [(3, _), (2, _), (0, _), (1, _)]) 0 d_Tb_priceOf_40 rfl (nI_1 i) (by decide) rfl ?_
          refine z_goto 4 d_Tb_priceOf_43 (by decide) ?_
          exact ih_4 (i + 1) (by omega) (by omega)
        · skip
          refine z_iload_n 1 d_Tb_priceOf_23 rfl rfl ?_
          refine z_aload_n 2 d_Tb_priceOf_24 rfl rfl ?_
          refine z_get zc_Tb 0 (by decide) qF_Tb_10 hG_Tb rfl d_Tb_priceOf_25 ?_
          refine z_iload_n 0 d_Tb_priceOf_28 rfl rfl ?_
          refine z_callV0 (m_AL_get hs0 hst (hT.kA hi6) hi6 (if_pos hi6)) ym_AL_get qM_Tb_166 qI_AL_get qV_AL_AL_get zc_AL (hT.kA hi6).1 d_Tb_priceOf_29 rfl (Nat.le_of_ble_eq_true rfl) ⟨Nat.zero_le _, Nat.zero_le _⟩ ⟨Nat.le_of_ble_eq_true rfl, Nat.le_of_ble_eq_true rfl⟩ ?_
          refine z_castS zc_Ke qK_Tb_77 (hT.ke hi6) d_Tb_priceOf_32 ?_
          refine z_get zc_Ke 2 (by decide) qF_Tb_363 (hT.ke hi6) rfl d_Tb_priceOf_35 ?_
          refine z_iadd d_Tb_priceOf_38 ?_
          refine z_topv (zpri_t (p := (fun k => V (100 + k) 2)) (show zbt set i = true from (zb_n0 _).mp c_20)) ?_
          refine z_istore_n (L' := [(2, _), (3, _), (0, _), (1, _)]) d_Tb_priceOf_39 rfl (by decide) rfl ?_
          refine z_iinc (v := nI (i + 1)) (L' := [(3, _), (2, _), (0, _), (1, _)]) 1 d_Tb_priceOf_40 rfl (nI_1 i) (by decide) rfl ?_
          refine z_goto 4 d_Tb_priceOf_43 (by decide) ?_
          exact ih_4 (i + 1) (by omega) (by omega)
  exact key_4 (nk + 1) 0 (by omega) (by omega)
set_option maxHeartbeats 4000000 in
set_option maxRecDepth 100000 in
theorem m_Tb_cheapestOfE {g0 : State} {d : zD} {l : Launch} {a0 : Array Value} (hs0 : zS0 d a0 g0) (hst : l.stackTraces = false) {G : zG} {A : Nat → Nat} {D : Nat → UInt64} {V : Nat → Nat → Int32} {nk ns : Nat} (hT : zT d A D V nk ns G) {s9 : Nat} (hs9 : s9 < 512) : zMet g0 d l y_Tb_cheapestOf c_Tb_cheapestOf 6 ((Option.some Jvm.ClassFile.FieldType.int)) 11 0 0 [.ref (A 0), .int (nI s9)] (G) (zEq (some (.int (zc1 (zch (fun k => s9.testBit k) (fun k => V (100 + k) 2) nk)))) G) (zNo) := by
  have hG_Tb := hT.tb
  have hnk : nk ≤ 8 := hT.2.1
  have hns : ns ≤ 6 := hT.2.2.1
  refine z_entry hs0 hst (by decide) (Nat.le_of_ble_eq_true rfl) (fun p e s m args below meth c => ?_)
  refine z_iconst (v := 0) d_Tb_cheapestOf_0 (by decide) ?_
  refine z_istore_n (L' := [(2, _), (0, _), (1, _)]) d_Tb_cheapestOf_1 rfl (by decide) rfl ?_
  refine z_iconst (v := 0) d_Tb_cheapestOf_2 (by decide) ?_
  refine z_istore_n (L' := [(3, _), (2, _), (0, _), (1, _)]) d_Tb_cheapestOf_3 rfl (by decide) rfl ?_
  refine z_iconst (v := (nI 0)) d_Tb_cheapestOf_4 (by decide) ?_
  refine z_istore (L' := [(4, _), (3, _), (2, _), (0, _), (1, _)]) d_Tb_cheapestOf_5 (by decide) rfl ?_
  have key_7 : ∀ (n : Nat) (i : Nat), nk - i < n → (i ≤ nk) → Z g0 d y_Tb_cheapestOf c_Tb_cheapestOf 6 ((Option.some Jvm.ClassFile.FieldType.int)) [] p l e (zR 11 0 0) s m args below meth c (vx_MQ below (zQc g0 d (zEq (some (.int (zc1 (zch (fun k => s9.testBit k) (fun k => V (100 + k) 2) nk)))) G)) (zXc g0 d (zNo)) args s 0 0 (zA g0)) 0 0 (G) [(4, .int (nI i)), (3, .int (zc2 (fun k => V (100 + k) 2) (zch (fun k => s9.testBit k) (fun k => V (100 + k) 2) i))), (2, .int (zc1 (zch (fun k => s9.testBit k) (fun k => V (100 + k) 2) i))), (0, .ref (A 0)), (1, .int (nI s9))] [] 7 := by
    intro n
    induction n with
    | zero => intro i h0; exact absurd h0 (Nat.not_lt_zero _)
    | succ n ih_7 =>
      intro i hm_7 hi
      have hle9 := zch_le (fun k => s9.testBit k) (fun k => V (100 + k) 2) i
      refine z_iload 0 d_Tb_cheapestOf_7 rfl ?_
      refine z_aload_n 3 d_Tb_cheapestOf_9 rfl rfl ?_
      refine z_get zc_Tb 0 (by decide) qF_Tb_10 hG_Tb rfl d_Tb_cheapestOf_10 ?_
      refine z_callV0 (m_AL_size hs0 hst hT.kl) ym_AL_size qM_Tb_68 qI_AL_size qV_AL_AL_size zc_AL hT.kl d_Tb_cheapestOf_13 rfl (Nat.le_of_ble_eq_true rfl) ⟨Nat.zero_le _, Nat.zero_le _⟩ ⟨Nat.le_of_ble_eq_true rfl, Nat.le_of_ble_eq_true rfl⟩ ?_
      refine z_icmp_ge 69 d_Tb_cheapestOf_16 (by decide) (fun c_16 => ?_) (fun c_16 => ?_)
      · skip
        obtain rfl : nk = i := by
          have := (nI_leI (a := nk) (b := i) (by omega) (by omega)).mp c_16
          omega
        refine z_iload_n 2 d_Tb_cheapestOf_69 rfl rfl ?_
        exact z_iret rfl (⟨rfl, rfl⟩) (by first | decide | omega) (by first | decide | omega) d_Tb_cheapestOf_70
      · skip
        have hi6 : i < nk := Nat.lt_of_not_le fun q => c_16 (nI_le q (by omega))
        refine z_aload_n 3 d_Tb_cheapestOf_19 rfl rfl ?_
        refine z_get zc_Tb 0 (by decide) qF_Tb_10 hG_Tb rfl d_Tb_cheapestOf_20 ?_
        refine z_iload 0 d_Tb_cheapestOf_23 rfl ?_
        refine z_callV0 (m_AL_get hs0 hst (hT.kA hi6) hi6 (if_pos hi6)) ym_AL_get qM_Tb_166 qI_AL_get qV_AL_AL_get zc_AL (hT.kA hi6).1 d_Tb_cheapestOf_25 rfl (Nat.le_of_ble_eq_true rfl) ⟨Nat.zero_le _, Nat.zero_le _⟩ ⟨Nat.le_of_ble_eq_true rfl, Nat.le_of_ble_eq_true rfl⟩ ?_
        refine z_castS zc_Ke qK_Tb_77 (hT.ke hi6) d_Tb_cheapestOf_28 ?_
        refine z_get zc_Ke 2 (by decide) qF_Tb_363 (hT.ke hi6) rfl d_Tb_cheapestOf_31 ?_
        refine z_istore (L' := [(5, _), (4, _), (3, _), (2, _), (0, _), (1, _)]) d_Tb_cheapestOf_34 (by decide) rfl ?_
        refine z_iload_n 5 d_Tb_cheapestOf_36 rfl rfl ?_
        refine z_iload 1 d_Tb_cheapestOf_37 rfl ?_
        refine z_callS0 (m_Tb_isIn hs0 hst (nI s9) (nI i)) ym_Tb_isIn qM_Tb_124 qS_Tb_isIn d_Tb_cheapestOf_39 rfl (Nat.le_of_ble_eq_true rfl) ⟨Nat.zero_le _, Nat.zero_le _⟩ ⟨Nat.le_of_ble_eq_true rfl, Nat.le_of_ble_eq_true rfl⟩ ?_
        refine z_if_eq 63 d_Tb_cheapestOf_42 (by decide) (fun c_42 => ?_) (fun c_42 => ?_)
        · skip
          have hf9 : (fun k => s9.testBit k) i = false := (tb_zbt s9 hs9 i (by omega)).symm.trans ((zb_0 _).mp c_42)
          rw [← zch_f (f := (fun k => s9.testBit k)) (p := (fun k => V (100 + k) 2)) (n := i) (Or.inl hf9)]
          refine z_iinc (v := nI (i + 1)) (L' := [(4, _), (5, _), (3, _), (2, _), (0, _), (1, _)]) 1 d_Tb_cheapestOf_63 rfl (nI_1 i) (by decide) rfl ?_
          refine z_goto 7 d_Tb_cheapestOf_66 (by decide) ?_
          refine z_sub (L' := [(4, _), (3, _), (2, _), (0, _), (1, _)]) [0, 2, 3, 4, 5] rfl ?_
          first
            | (have hq := ht9
               have hb := ih_7 (i + 1) (by omega) (by omega)
               rw [ht9] at hb
               exact hb)
            | exact ih_7 (i + 1) (by omega) (by omega)
        · skip
          have hf9 : (fun k => s9.testBit k) i = true := (tb_zbt s9 hs9 i (by omega)).symm.trans ((zb_n0 _).mp c_42)
          refine z_iload_n 3 d_Tb_cheapestOf_45 rfl rfl ?_
          refine z_if_eq 55 d_Tb_cheapestOf_46 (by decide) (fun c_46 => ?_) (fun c_46 => ?_)
          · skip
            have ht9 : (zch (fun k => s9.testBit k) (fun k => V (100 + k) 2) (i + 1)) = i + 1 := zch_t (f := (fun k => s9.testBit k)) (p := (fun k => V (100 + k) 2)) hf9 (Or.inl ((zc1_0 _ (by omega)).mp c_46))
            refine z_iconst (v := 1) d_Tb_cheapestOf_55 (by decide) ?_
            refine z_iload 1 d_Tb_cheapestOf_56 rfl ?_
            refine z_ishl d_Tb_cheapestOf_58 ?_
            refine z_istore_n (L' := [(2, _), (5, _), (4, _), (3, _), (0, _), (1, _)]) d_Tb_cheapestOf_59 rfl (by decide) rfl ?_
            refine z_iload 1 d_Tb_cheapestOf_60 rfl ?_
            refine z_istore_n (L' := [(3, _), (2, _), (5, _), (4, _), (0, _), (1, _)]) d_Tb_cheapestOf_62 rfl (by decide) rfl ?_
            refine z_iinc (v := nI (i + 1)) (L' := [(4, _), (3, _), (2, _), (5, _), (0, _), (1, _)]) 3 d_Tb_cheapestOf_63 rfl (nI_1 i) (by decide) rfl ?_
            refine z_goto 7 d_Tb_cheapestOf_66 (by decide) ?_
            refine z_sub (L' := [(4, _), (3, _), (2, _), (0, _), (1, _)]) [0, 1, 2, 4, 5] rfl ?_
            first
              | (have hq := ht9
                 have hb := ih_7 (i + 1) (by omega) (by omega)
                 rw [ht9] at hb
                 exact hb)
              | exact ih_7 (i + 1) (by omega) (by omega)
          · skip
            refine z_iload 0 d_Tb_cheapestOf_49 rfl ?_
            refine z_iload_n 2 d_Tb_cheapestOf_51 rfl rfl ?_
            refine z_icmp_ge 63 d_Tb_cheapestOf_52 (by decide) (fun c_52 => ?_) (fun c_52 => ?_)
            · skip
              rw [← zch_f (f := (fun k => s9.testBit k)) (p := (fun k => V (100 + k) 2)) (n := i) (Or.inr (fun q => q.elim (fun e => c_46 ((zc1_0 _ (by omega)).mpr e)) (fun e => absurd e (Int32.not_lt.mpr (by rw [← zc2_p (p := (fun k => V (100 + k) 2)) (fun e => c_46 ((zc1_0 _ (by omega)).mpr e))]; exact c_52)))))]
              refine z_iinc (v := nI (i + 1)) (L' := [(4, _), (5, _), (3, _), (2, _), (0, _), (1, _)]) 1 d_Tb_cheapestOf_63 rfl (nI_1 i) (by decide) rfl ?_
              refine z_goto 7 d_Tb_cheapestOf_66 (by decide) ?_
              refine z_sub (L' := [(4, _), (3, _), (2, _), (0, _), (1, _)]) [0, 2, 3, 4, 5] rfl ?_
              first
                | (have hq := ht9
                   have hb := ih_7 (i + 1) (by omega) (by omega)
                   rw [ht9] at hb
                   exact hb)
                | exact ih_7 (i + 1) (by omega) (by omega)
            · skip
              have ht9 : (zch (fun k => s9.testBit k) (fun k => V (100 + k) 2) (i + 1)) = i + 1 := zch_t (f := (fun k => s9.testBit k)) (p := (fun k => V (100 + k) 2)) hf9 (Or.inr (by rw [← zc2_p (p := (fun k => V (100 + k) 2)) (fun e => c_46 ((zc1_0 _ (by omega)).mpr e))]; exact Int32.not_le.mp c_52))
              refine z_iconst (v := 1) d_Tb_cheapestOf_55 (by decide) ?_
              refine z_iload 1 d_Tb_cheapestOf_56 rfl ?_
              refine z_ishl d_Tb_cheapestOf_58 ?_
              refine z_istore_n (L' := [(2, _), (5, _), (4, _), (3, _), (0, _), (1, _)]) d_Tb_cheapestOf_59 rfl (by decide) rfl ?_
              refine z_iload 1 d_Tb_cheapestOf_60 rfl ?_
              refine z_istore_n (L' := [(3, _), (2, _), (5, _), (4, _), (0, _), (1, _)]) d_Tb_cheapestOf_62 rfl (by decide) rfl ?_
              refine z_iinc (v := nI (i + 1)) (L' := [(4, _), (3, _), (2, _), (5, _), (0, _), (1, _)]) 3 d_Tb_cheapestOf_63 rfl (nI_1 i) (by decide) rfl ?_
              refine z_goto 7 d_Tb_cheapestOf_66 (by decide) ?_
              refine z_sub (L' := [(4, _), (3, _), (2, _), (0, _), (1, _)]) [0, 1, 2, 4, 5] rfl ?_
              first
                | (have hq := ht9
                   have hb := ih_7 (i + 1) (by omega) (by omega)
                   rw [ht9] at hb
                   exact hb)
                | exact ih_7 (i + 1) (by omega) (by omega)
  exact key_7 (nk + 1) 0 (by omega) (by omega)
set_option maxHeartbeats 4000000 in
set_option maxRecDepth 100000 in
theorem m_Tb_boughtOfE {g0 : State} {d : zD} {l : Launch} {a0 : Array Value} (hs0 : zS0 d a0 g0) (hst : l.stackTraces = false) {G : zG} {A : Nat → Nat} {D : Nat → UInt64} {V : Nat → Nat → Int32} {nk ns : Nat} (hT : zT d A D V nk ns G) {si : Nat} (hsi : si < ns) {t : Nat} (ht : V (200 + si) 0 = nI t) (ht4 : t ≤ 4) : zMet g0 d l y_Tb_boughtOf c_Tb_boughtOf 6 ((Option.some Jvm.ClassFile.FieldType.int)) 12 0 0 [.ref (A 0), .ref (A (200 + si))] (G) (zEq (some (.int (zBo (zsetN (zcur (V (400 + si)) (V (200 + si) 3)) 8) nk t (fun k => V (100 + k) 2)))) G) (zNo) := by
  have hG_Tb := hT.tb
  have hnk : nk ≤ 8 := hT.2.1
  have hns : ns ≤ 6 := hT.2.2.1
  have hS := hT.se hsi
  have hh9 := (zset_N (zcur (V (400 + si)) (V (200 + si) 3)) 8 (by decide)).2
  refine z_entry hs0 hst (by decide) (Nat.le_of_ble_eq_true rfl) (fun p e s m args below meth c => ?_)
  refine z_aload_n 1 d_Tb_boughtOf_0 rfl rfl ?_
  refine z_callV0 (m_Se_currentSet hs0 hst hS) ym_Se_currentSet qM_Tb_144 qI_Se_currentSet qV_Se_Se_currentSet zc_Se hS.1 d_Tb_boughtOf_1 rfl (Nat.le_of_ble_eq_true rfl) ⟨Nat.zero_le _, Nat.zero_le _⟩ ⟨Nat.le_of_ble_eq_true rfl, Nat.le_of_ble_eq_true rfl⟩ ?_
  refine z_topv (v := nI (zlft (zsetN (zcur (V (400 + si)) (V (200 + si) 3)) 8) 0)) (by rw [(zset_N _ 8 (by decide)).1, zlft_0 (by omega)]) ?_
  refine z_istore_n (L' := [(2, _), (0, _), (1, _)]) d_Tb_boughtOf_4 rfl (by decide) rfl ?_
  refine z_iload_n 0 d_Tb_boughtOf_5 rfl rfl ?_
  refine z_callS0 (m_In_bitCount hs0 hst _) ym_In_bitCount qM_Tb_105 qS_In_bitCount d_Tb_boughtOf_6 rfl (Nat.le_of_ble_eq_true rfl) ⟨Nat.zero_le _, Nat.zero_le _⟩ ⟨Nat.le_of_ble_eq_true rfl, Nat.le_of_ble_eq_true rfl⟩ ?_
  refine z_topv (v := nI (zpop 9 (zsetN (zcur (V (400 + si)) (V (200 + si) 3)) 8))) (by rw [zlft_0 (by omega)]; exact zbc_512 _ (by omega)) ?_
  refine z_aload_n 2 d_Tb_boughtOf_9 rfl rfl ?_
  refine z_get zc_Se 0 (by decide) qF_Tb_147 hS.1 rfl d_Tb_boughtOf_10 ?_
  refine z_topv ht ?_
  refine z_icmp_ge 18 d_Tb_boughtOf_13 (by decide) (fun c_13 => ?_) (fun c_13 => ?_)
  · skip
    refine z_iconst (v := (nI 0)) d_Tb_boughtOf_18 (by decide) ?_
    refine z_istore_n (L' := [(3, _), (2, _), (0, _), (1, _)]) d_Tb_boughtOf_19 rfl (by decide) rfl ?_
    refine z_iconst (v := (nI 0)) d_Tb_boughtOf_20 (by decide) ?_
    refine z_istore (L' := [(4, _), (3, _), (2, _), (0, _), (1, _)]) d_Tb_boughtOf_21 (by decide) rfl ?_
    have key_23 : ∀ (n : Nat) (i : Nat), t - i < n → (i ≤ t) → Z g0 d y_Tb_boughtOf c_Tb_boughtOf 6 ((Option.some Jvm.ClassFile.FieldType.int)) [] p l e (zR 12 0 0) s m args below meth c (vx_MQ below (zQc g0 d (zEq (some (.int (zBo (zsetN (zcur (V (400 + si)) (V (200 + si) 3)) 8) nk t (fun k => V (100 + k) 2)))) G)) (zXc g0 d (zNo)) args s 0 0 (zA g0)) 0 0 (G) [(4, .int (nI i)), (3, .int (nI (zbB (zsetN (zcur (V (400 + si)) (V (200 + si) 3)) 8) nk (fun k => V (100 + k) 2) i))), (2, .int (nI (zlft (zsetN (zcur (V (400 + si)) (V (200 + si) 3)) 8) (zbB (zsetN (zcur (V (400 + si)) (V (200 + si) 3)) 8) nk (fun k => V (100 + k) 2) i)))), (0, .ref (A 0)), (1, .ref (A (200 + si)))] [] 23 := by
      intro n
      induction n with
      | zero => intro i h0; exact absurd h0 (Nat.not_lt_zero _)
      | succ n ih_23 =>
        intro i hm_23 hi
        have hb9 := zbB_lt (h := (zsetN (zcur (V (400 + si)) (V (200 + si) 3)) 8)) hnk (fun k => V (100 + k) 2) i
        have hc9 := zch_le (fun k => (zlft (zsetN (zcur (V (400 + si)) (V (200 + si) 3)) 8) (zbB (zsetN (zcur (V (400 + si)) (V (200 + si) 3)) 8) nk (fun k => V (100 + k) 2) i)).testBit k) (fun k => V (100 + k) 2) nk
        refine z_iload 0 d_Tb_boughtOf_23 rfl ?_
        refine z_aload_n 4 d_Tb_boughtOf_25 rfl rfl ?_
        refine z_get zc_Se 0 (by decide) qF_Tb_147 hS.1 rfl d_Tb_boughtOf_26 ?_
        refine z_topv ht ?_
        refine z_icmp_ge 57 d_Tb_boughtOf_29 (by decide) (fun c_29 => ?_) (fun c_29 => ?_)
        · skip
          obtain rfl : t = i := by
            have := (nI_leI (a := t) (b := i) (by omega) (by omega)).mp c_29
            omega
          refine z_iload_n 1 d_Tb_boughtOf_57 rfl rfl ?_
          exact z_iret rfl (⟨by unfold zBo; rw [if_pos c_13], rfl⟩) (by first | decide | omega) (by first | decide | omega) d_Tb_boughtOf_58
        · skip
          have hi6 : i < t := Nat.lt_of_not_le fun q => c_29 (nI_le q (by omega))
          refine z_aload_n 3 d_Tb_boughtOf_32 rfl rfl ?_
          refine z_iload_n 2 d_Tb_boughtOf_33 rfl rfl ?_
          refine z_callV0 ((m_Tb_cheapestOfE hs0 hst hT (s9 := zlft (zsetN (zcur (V (400 + si)) (V (200 + si) 3)) 8) (zbB (zsetN (zcur (V (400 + si)) (V (200 + si) 3)) 8) nk (fun k => V (100 + k) 2) i)) (zlft_lt _ _))) ym_Tb_cheapestOf qM_Tb_366 qI_Tb_cheapestOf qV_Tb_Tb_cheapestOf zc_Tb hG_Tb d_Tb_boughtOf_34 rfl (Nat.le_of_ble_eq_true rfl) ⟨Nat.zero_le _, Nat.zero_le _⟩ ⟨Nat.le_of_ble_eq_true rfl, Nat.le_of_ble_eq_true rfl⟩ ?_
          refine z_istore (L' := [(5, _), (4, _), (3, _), (2, _), (0, _), (1, _)]) d_Tb_boughtOf_37 (by decide) rfl ?_
          refine z_iload_n 2 d_Tb_boughtOf_39 rfl rfl ?_
          refine z_iload 0 d_Tb_boughtOf_40 rfl ?_
          refine z_ior d_Tb_boughtOf_42 ?_
          refine z_topv (v := nI (zbB (zsetN (zcur (V (400 + si)) (V (200 + si) 3)) 8) nk (fun k => V (100 + k) 2) (i + 1))) (zput_c hb9 (by omega)).1 ?_
          refine z_istore_n (L' := [(3, _), (5, _), (4, _), (2, _), (0, _), (1, _)]) d_Tb_boughtOf_43 rfl (by decide) rfl ?_
          refine z_iload_n 3 d_Tb_boughtOf_44 rfl rfl ?_
          refine z_iload 1 d_Tb_boughtOf_45 rfl ?_
          refine z_iconst (v := (-1)) d_Tb_boughtOf_47 (by decide) ?_
          refine z_ixor d_Tb_boughtOf_48 ?_
          refine z_iand d_Tb_boughtOf_49 ?_
          refine z_topv (v := nI (zlft (zsetN (zcur (V (400 + si)) (V (200 + si) 3)) 8) (zbB (zsetN (zcur (V (400 + si)) (V (200 + si) 3)) 8) nk (fun k => V (100 + k) 2) (i + 1)))) (zlft_c hb9 (by omega)) ?_
          refine z_istore_n (L' := [(2, _), (3, _), (5, _), (4, _), (0, _), (1, _)]) d_Tb_boughtOf_50 rfl (by decide) rfl ?_
          refine z_iinc (v := nI (i + 1)) (L' := [(4, _), (2, _), (3, _), (5, _), (0, _), (1, _)]) 3 d_Tb_boughtOf_51 rfl (nI_1 i) (by decide) rfl ?_
          refine z_goto 23 d_Tb_boughtOf_54 (by decide) ?_
          refine z_sub (L' := [(4, _), (3, _), (2, _), (0, _), (1, _)]) [0, 2, 1, 4, 5] rfl ?_
          exact ih_23 (i + 1) (by omega) (by omega)
    exact key_23 (t + 1) 0 (by omega) (by omega)
  · skip
    refine z_iconst (v := 0) d_Tb_boughtOf_16 (by decide) ?_
    exact z_iret rfl (⟨by unfold zBo; rw [if_neg c_13], rfl⟩) (by first | decide | omega) (by first | decide | omega) d_Tb_boughtOf_17
set_option maxHeartbeats 4000000 in
set_option maxRecDepth 100000 in
theorem m_Tb_boughtForE {g0 : State} {d : zD} {l : Launch} {a0 : Array Value} (hs0 : zS0 d a0 g0) (hst : l.stackTraces = false) {G : zG} {A : Nat → Nat} {D : Nat → UInt64} {V : Nat → Nat → Int32} {nk ns : Nat} (hT : zT d A D V nk ns G) {si : Nat} (hsi : si < ns) {t : Nat} (ht : V (200 + si) 0 = nI t) (ht4 : t ≤ 4) : zMet g0 d l y_Tb_boughtFor c_Tb_boughtFor 3 ((Option.some Jvm.ClassFile.FieldType.int)) 13 0 0 [.ref (A 0), .ref (A (200 + si))] (G) (zEq (some (.int (if zBo (zsetN (zcur (V (400 + si)) (V (200 + si) 3)) 8) nk t (fun k => V (100 + k) 2) = 0 then -1 else zpri (zBo (zsetN (zcur (V (400 + si)) (V (200 + si) 3)) 8) nk t (fun k => V (100 + k) 2)) (fun k => V (100 + k) 2) nk))) G) (zNo) := by
  have hG_Tb := hT.tb
  have hnk : nk ≤ 8 := hT.2.1
  have hns : ns ≤ 6 := hT.2.2.1
  have hS := hT.se hsi
  have hh9 := (zset_N (zcur (V (400 + si)) (V (200 + si) 3)) 8 (by decide)).2
  refine z_entry hs0 hst (by decide) (Nat.le_of_ble_eq_true rfl) (fun p e s m args below meth c => ?_)
  refine z_aload_n 0 d_Tb_boughtFor_0 rfl rfl ?_
  refine z_aload_n 1 d_Tb_boughtFor_1 rfl rfl ?_
  refine z_callV0 ((m_Tb_boughtOfE hs0 hst hT hsi ht ht4)) ym_Tb_boughtOf qM_Tb_392 qI_Tb_boughtOf qV_Tb_Tb_boughtOf zc_Tb hG_Tb d_Tb_boughtFor_2 rfl (Nat.le_of_ble_eq_true rfl) ⟨Nat.zero_le _, Nat.zero_le _⟩ ⟨Nat.le_of_ble_eq_true rfl, Nat.le_of_ble_eq_true rfl⟩ ?_
  refine z_istore_n (L' := [(2, _), (0, _), (1, _)]) d_Tb_boughtFor_5 rfl (by decide) rfl ?_
  refine z_iload_n 0 d_Tb_boughtFor_6 rfl rfl ?_
  refine z_if_ne 14 d_Tb_boughtFor_7 (by decide) (fun c_7 => ?_) (fun c_7 => ?_)
  · skip
    refine z_aload_n 1 d_Tb_boughtFor_14 rfl rfl ?_
    refine z_iload_n 0 d_Tb_boughtFor_15 rfl rfl ?_
    refine z_callV0 ((m_Tb_priceOfE hs0 hst hT _)) ym_Tb_priceOf qM_Tb_372 qI_Tb_priceOf qV_Tb_Tb_priceOf zc_Tb hG_Tb d_Tb_boughtFor_16 rfl (Nat.le_of_ble_eq_true rfl) ⟨Nat.zero_le _, Nat.zero_le _⟩ ⟨Nat.le_of_ble_eq_true rfl, Nat.le_of_ble_eq_true rfl⟩ ?_
    exact z_iret rfl (⟨by first | rw [if_pos c_7] | rw [if_neg c_7], rfl⟩) (by first | decide | omega) (by first | decide | omega) d_Tb_boughtFor_19
  · skip
    refine z_iconst (v := (-1)) d_Tb_boughtFor_10 (by decide) ?_
    refine z_goto 19 d_Tb_boughtFor_11 (by decide) ?_
    exact z_iret rfl (⟨by first | rw [if_pos c_7] | rw [if_neg c_7], rfl⟩) (by first | decide | omega) (by first | decide | omega) d_Tb_boughtFor_19
set_option maxHeartbeats 4000000 in
set_option maxRecDepth 100000 in
theorem m_Tb_tellOfSecretE {g0 : State} {d : zD} {l : Launch} {a0 : Array Value} (hs0 : zS0 d a0 g0) (hst : l.stackTraces = false) {G : zG} {A : Nat → Nat} {D : Nat → UInt64} {V : Nat → Nat → Int32} {nk ns : Nat} (hT : zT d A D V nk ns G) {si : Nat} (hsi : si < ns) (w : Int32) {t : Nat} (ht : V (200 + si) 0 = nI t) (ht4 : t ≤ 4) : zMet g0 d l y_Tb_tellOfSecret c_Tb_tellOfSecret 3 ((Option.some Jvm.ClassFile.FieldType.int)) 14 0 0 [.ref (A 0), .ref (A (200 + si)), .int w] (G) (zEq (some (.int (qSe V nk si t w))) G) (zNo) := by
  have hG_Tb := hT.tb
  have hnk : nk ≤ 8 := hT.2.1
  have hns : ns ≤ 6 := hT.2.2.1
  refine z_entry hs0 hst (by decide) (Nat.le_of_ble_eq_true rfl) (fun p e s m args below meth c => ?_)
  refine z_iload_n 2 d_Tb_tellOfSecret_0 rfl rfl ?_
  by_cases e0 : w = 0
  · subst e0
    refine z_tableIn 48 d_Tb_tellOfSecret_1 (by decide) (by decide) rfl (by decide) ?_
    refine z_aload_n 1 d_Tb_tellOfSecret_48 rfl rfl ?_
    refine z_get zc_Se 0 (by decide) qF_Tb_147 (hT.se hsi).1 rfl d_Tb_tellOfSecret_49 ?_
    exact z_iret rfl (⟨by unfold qSe; rw [if_pos rfl], rfl⟩) (by first | decide | omega) (by first | decide | omega) d_Tb_tellOfSecret_52
  by_cases e1 : w = 1
  · subst e1
    refine z_tableIn 53 d_Tb_tellOfSecret_1 (by decide) (by decide) rfl (by decide) ?_
    refine z_aload_n 1 d_Tb_tellOfSecret_53 rfl rfl ?_
    refine z_get zc_Se 1 (by decide) qF_Tb_357 (hT.se hsi).1 rfl d_Tb_tellOfSecret_54 ?_
    exact z_iret rfl (⟨by unfold qSe; rw [if_neg (by decide), if_pos rfl], rfl⟩) (by first | decide | omega) (by first | decide | omega) d_Tb_tellOfSecret_57
  by_cases e2 : w = 2
  · subst e2
    refine z_tableIn 58 d_Tb_tellOfSecret_1 (by decide) (by decide) rfl (by decide) ?_
    refine z_aload_n 1 d_Tb_tellOfSecret_58 rfl rfl ?_
    refine z_get zc_Se 2 (by decide) qF_Tb_360 (hT.se hsi).1 rfl d_Tb_tellOfSecret_59 ?_
    exact z_iret rfl (⟨by unfold qSe; rw [if_neg (by decide), if_neg (by decide), if_pos rfl], rfl⟩) (by first | decide | omega) (by first | decide | omega) d_Tb_tellOfSecret_62
  by_cases e3 : w = 3
  · subst e3
    refine z_tableIn 63 d_Tb_tellOfSecret_1 (by decide) (by decide) rfl (by decide) ?_
    refine z_aload_n 1 d_Tb_tellOfSecret_63 rfl rfl ?_
    refine z_get zc_Se 5 (by decide) qF_Tb_152 (hT.se hsi).1 rfl d_Tb_tellOfSecret_64 ?_
    exact z_iret rfl (⟨by unfold qSe; rw [if_neg (by decide), if_neg (by decide), if_neg (by decide), if_pos rfl], rfl⟩) (by first | decide | omega) (by first | decide | omega) d_Tb_tellOfSecret_67
  by_cases e4 : w = 4
  · subst e4
    refine z_tableIn 68 d_Tb_tellOfSecret_1 (by decide) (by decide) rfl (by decide) ?_
    refine z_aload_n 1 d_Tb_tellOfSecret_68 rfl rfl ?_
    refine z_callV0 (m_Se_currentSet hs0 hst (hT.se hsi)) ym_Se_currentSet qM_Tb_144 qI_Se_currentSet qV_Se_Se_currentSet zc_Se (hT.se hsi).1 d_Tb_tellOfSecret_69 rfl (Nat.le_of_ble_eq_true rfl) ⟨Nat.zero_le _, Nat.zero_le _⟩ ⟨Nat.le_of_ble_eq_true rfl, Nat.le_of_ble_eq_true rfl⟩ ?_
    exact z_iret rfl (⟨by unfold qSe; rw [if_neg (by decide), if_neg (by decide), if_neg (by decide), if_neg (by decide), if_pos rfl], rfl⟩) (by first | decide | omega) (by first | decide | omega) d_Tb_tellOfSecret_72
  by_cases e5 : w = 5
  · subst e5
    refine z_tableIn 73 d_Tb_tellOfSecret_1 (by decide) (by decide) rfl (by decide) ?_
    refine z_aload_n 1 d_Tb_tellOfSecret_73 rfl rfl ?_
    refine z_callV0 (m_Se_staleSet hs0 hst (hT.se hsi)) ym_Se_staleSet qM_Tb_158 qI_Se_staleSet qV_Se_Se_staleSet zc_Se (hT.se hsi).1 d_Tb_tellOfSecret_74 rfl (Nat.le_of_ble_eq_true rfl) ⟨Nat.zero_le _, Nat.zero_le _⟩ ⟨Nat.le_of_ble_eq_true rfl, Nat.le_of_ble_eq_true rfl⟩ ?_
    exact z_iret rfl (⟨by unfold qSe; rw [if_neg (by decide), if_neg (by decide), if_neg (by decide), if_neg (by decide), if_neg (by decide), if_pos rfl], rfl⟩) (by first | decide | omega) (by first | decide | omega) d_Tb_tellOfSecret_77
  by_cases e6 : w = 6
  · subst e6
    refine z_tableIn 78 d_Tb_tellOfSecret_1 (by decide) (by decide) rfl (by decide) ?_
    refine z_aload_n 1 d_Tb_tellOfSecret_78 rfl rfl ?_
    refine z_get zc_Se 6 (by decide) qF_Tb_213 (hT.se hsi).1 rfl d_Tb_tellOfSecret_79 ?_
    refine z_callS0 (m_In_bitCount hs0 hst _) ym_In_bitCount qM_Tb_105 qS_In_bitCount d_Tb_tellOfSecret_82 rfl (Nat.le_of_ble_eq_true rfl) ⟨Nat.zero_le _, Nat.zero_le _⟩ ⟨Nat.le_of_ble_eq_true rfl, Nat.le_of_ble_eq_true rfl⟩ ?_
    exact z_iret rfl (⟨by unfold qSe; rw [if_neg (by decide), if_neg (by decide), if_neg (by decide), if_neg (by decide), if_neg (by decide), if_neg (by decide), if_pos rfl], rfl⟩) (by first | decide | omega) (by first | decide | omega) d_Tb_tellOfSecret_85
  by_cases e7 : w = 7
  · subst e7
    refine z_tableIn 86 d_Tb_tellOfSecret_1 (by decide) (by decide) rfl (by decide) ?_
    refine z_aload_n 0 d_Tb_tellOfSecret_86 rfl rfl ?_
    refine z_aload_n 1 d_Tb_tellOfSecret_87 rfl rfl ?_
    refine z_callV0 ((m_Tb_boughtForE hs0 hst hT hsi ht ht4)) ym_Tb_boughtFor qM_Tb_389 qI_Tb_boughtFor qV_Tb_Tb_boughtFor zc_Tb hG_Tb d_Tb_tellOfSecret_88 rfl (Nat.le_of_ble_eq_true rfl) ⟨Nat.zero_le _, Nat.zero_le _⟩ ⟨Nat.le_of_ble_eq_true rfl, Nat.le_of_ble_eq_true rfl⟩ ?_
    exact z_iret rfl (⟨by unfold qSe; rw [if_neg (show ¬ (7 : Int32) = 0 by decide), if_neg (show ¬ (7 : Int32) = 1 by decide), if_neg (show ¬ (7 : Int32) = 2 by decide), if_neg (show ¬ (7 : Int32) = 3 by decide), if_neg (show ¬ (7 : Int32) = 4 by decide), if_neg (show ¬ (7 : Int32) = 5 by decide), if_neg (show ¬ (7 : Int32) = 6 by decide), if_pos (show (7 : Int32) = 7 from rfl)], rfl⟩) (by first | decide | omega) (by first | decide | omega) d_Tb_tellOfSecret_91
  have ed : w.toInt < 0 ∨ 7 < w.toInt := by
    simp only [← Int32.toInt_inj, Int32.reduceToInt] at e0 e1 e2 e3 e4 e5 e6 e7
    omega
  · skip
    refine z_tableOut 92 d_Tb_tellOfSecret_1 (ed) (by decide) ?_
    refine z_aload_n 0 d_Tb_tellOfSecret_92 rfl rfl ?_
    refine z_aload_n 1 d_Tb_tellOfSecret_93 rfl rfl ?_
    refine z_callV0 ((m_Tb_boughtOfE hs0 hst hT hsi ht ht4)) ym_Tb_boughtOf qM_Tb_392 qI_Tb_boughtOf qV_Tb_Tb_boughtOf zc_Tb hG_Tb d_Tb_tellOfSecret_94 rfl (Nat.le_of_ble_eq_true rfl) ⟨Nat.zero_le _, Nat.zero_le _⟩ ⟨Nat.le_of_ble_eq_true rfl, Nat.le_of_ble_eq_true rfl⟩ ?_
    exact z_iret rfl (⟨by unfold qSe; rw [if_neg (fun e => by subst e; revert ed; decide), if_neg (fun e => by subst e; revert ed; decide), if_neg (fun e => by subst e; revert ed; decide), if_neg (fun e => by subst e; revert ed; decide), if_neg (fun e => by subst e; revert ed; decide), if_neg (fun e => by subst e; revert ed; decide), if_neg (fun e => by subst e; revert ed; decide), if_neg (fun e => by subst e; revert ed; decide)], rfl⟩) (by first | decide | omega) (by first | decide | omega) d_Tb_tellOfSecret_97
set_option maxHeartbeats 4000000 in
set_option maxRecDepth 100000 in
theorem m_Tb_ofSecretE {g0 : State} {d : zD} {l : Launch} {a0 : Array Value} (hs0 : zS0 d a0 g0) (hst : l.stackTraces = false) {G : zG} {A : Nat → Nat} {D : Nat → UInt64} {V : Nat → Nat → Int32} {nk ns : Nat} (hT : zT d A D V nk ns G) (x w : Int32) : zMet g0 d l y_Tb_ofSecret c_Tb_ofSecret 4 ((Option.some Jvm.ClassFile.FieldType.int)) 15 2 12 [.ref (A 0), .int x, .int w] (G) (zTu d A nk ns V G (fun r => ∃ v, r = some (.int v) ∧ tSe V nk ns x w v)) (zXo d A nk ns V G (fun E => (zoo ns x ∧ E = "java/lang/IndexOutOfBoundsException") ∨ (∃ si, si < ns ∧ x = nI si ∧ zin w 0 8 = false ∧ E = "java/lang/IllegalArgumentException"))) := by
  have hG_Tb := hT.tb
  have hnk : nk ≤ 8 := hT.2.1
  have hns : ns ≤ 6 := hT.2.2.1
  refine z_entry hs0 hst (by decide) (Nat.le_of_ble_eq_true rfl) (fun p e s m args below meth c => ?_)
  refine z_aload_n 0 d_Tb_ofSecret_0 rfl rfl ?_
  refine z_iload_n 1 d_Tb_ofSecret_1 rfl rfl ?_
  refine z_callV (m_Tb_secretAt hs0 hst hT x) ym_Tb_secretAt qM_Tb_140 qI_Tb_secretAt qV_Tb_Tb_secretAt zc_Tb hG_Tb d_Tb_ofSecret_2 rfl (Nat.le_of_ble_eq_true rfl) ⟨by decide, by decide⟩ ⟨Nat.le_of_ble_eq_true rfl, Nat.le_of_ble_eq_true rfl⟩ ?_ ?_
  · exact fun E G9 hx => by
      obtain ⟨hx1, rfl, hx3⟩ := hx
      obtain rfl : G = G9 := hx3.symm
      exact z_out ⟨Or.inl ⟨hx1, rfl⟩, D, V, hT, zKo.rf, zFr.rf⟩ (by decide) (by decide)
  intro r_2 G_2 hp_2
  obtain ⟨si, hsi, rfl, rfl, hg_2⟩ := hp_2
  obtain rfl : G = G_2 := hg_2.symm
  obtain ⟨t, ht1, ht4, ht⟩ := hT.tn hsi
  refine z_astore_n (L' := [(3, _), (0, _), (1, _), (2, _)]) d_Tb_ofSecret_5 rfl (by decide) rfl ?_
  refine z_iload_n 3 d_Tb_ofSecret_6 rfl rfl ?_
  refine z_iconst (v := 0) d_Tb_ofSecret_7 (by decide) ?_
  refine z_bipush (v := 8) d_Tb_ofSecret_8 (by decide) ?_
  refine z_callS0 (m_Tb_isFrom hs0 hst w 0 _) ym_Tb_isFrom qM_Tb_57 qS_Tb_isFrom d_Tb_ofSecret_10 rfl (Nat.le_of_ble_eq_true rfl) ⟨by decide, by decide⟩ ⟨Nat.le_of_ble_eq_true rfl, Nat.le_of_ble_eq_true rfl⟩ ?_
  refine z_if_ne 26 d_Tb_ofSecret_13 (by decide) (fun c_13 => ?_) (fun c_13 => ?_)
  · skip
    refine z_aload_n 1 d_Tb_ofSecret_26 rfl rfl ?_
    refine z_aload_n 0 d_Tb_ofSecret_27 rfl rfl ?_
    refine z_iload_n 3 d_Tb_ofSecret_28 rfl rfl ?_
    refine z_callV0 ((m_Tb_tellOfSecretE hs0 hst hT hsi w ht ht4)) ym_Tb_tellOfSecret qM_Tb_238 qI_Tb_tellOfSecret qV_Tb_Tb_tellOfSecret zc_Tb hG_Tb d_Tb_ofSecret_29 rfl (Nat.le_of_ble_eq_true rfl) ⟨by decide, by decide⟩ ⟨Nat.le_of_ble_eq_true rfl, Nat.le_of_ble_eq_true rfl⟩ ?_
    exact z_iret rfl (⟨⟨_, rfl, si, hsi, rfl, (zb_n0 _).mp c_13, t, ht1, ht4, ht, rfl⟩, D, V, hT, zKo.rf, zFr.rf⟩) (by first | decide | omega) (by first | decide | omega) d_Tb_ofSecret_32
  · skip
    exact z_thS (names := ["java/lang/RuntimeException", "java/lang/Exception"]) (by decide) (by decide) qK_Tb_61 qN_IAE qR_Tb_236 th_65.1 th_65.2 d_Tb_ofSecret_16 d_Tb_ofSecret_19 d_Tb_ofSecret_20 d_Tb_ofSecret_22 d_Tb_ofSecret_25 (by decide) (Nat.le_of_ble_eq_true rfl) ⟨by decide, by decide⟩ (⟨Or.inr ⟨si, hsi, rfl, (zb_0 _).mp c_13, rfl⟩, D, V, hT, zKo.rf, zFr.rf⟩) (by decide) (by decide)
