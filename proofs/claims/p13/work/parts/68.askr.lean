
/-- the cheapest, from the last one down: of those ahead i there are nk - i -/
def zcd (f : Nat → Bool) (p : Nat → Int32) (nk : Nat) : Nat → Nat
  | 0 => 0
  | i + 1 => if f (nk - 1 - i) = true ∧ (zcd f p nk i = 0 ∨ ¬ p (zcd f p nk i - 1) < p (nk - 1 - i)) then nk - 1 - i + 1 else zcd f p nk i
theorem zcd_t {f : Nat → Bool} {p : Nat → Int32} {nk i : Nat} (h : f (nk - 1 - i) = true) (h2 : zcd f p nk i = 0 ∨ ¬ p (zcd f p nk i - 1) < p (nk - 1 - i)) : zcd f p nk (i + 1) = nk - 1 - i + 1 := if_pos ⟨h, h2⟩
theorem zcd_f {f : Nat → Bool} {p : Nat → Int32} {nk i : Nat} (h : f (nk - 1 - i) = false ∨ ¬ (zcd f p nk i = 0 ∨ ¬ p (zcd f p nk i - 1) < p (nk - 1 - i))) : zcd f p nk (i + 1) = zcd f p nk i := if_neg (fun q => h.elim (fun e => by rw [q.1] at e; cases e) (fun e => e q.2))
theorem zcd_le (f : Nat → Bool) (p : Nat → Int32) (nk : Nat) : ∀ i, i ≤ nk → zcd f p nk i ≤ nk
  | 0, _ => Nat.zero_le _
  | i + 1, h => by
    have := zcd_le f p nk i (by omega)
    unfold zcd
    split <;> omega
def zw1 : Nat → Int32
  | 0 => -1
  | b + 1 => nI b
/-- the reference's cheapest n -/
def rbB (f : Nat → Bool) (nk : Nat) (p : Nat → Int32) : Nat → Nat
  | 0 => 0
  | n + 1 => zput (rbB f nk p n) (zcd (fun k => f k && !(rbB f nk p n).testBit k) p nk nk)
theorem rbB_lt {nk : Nat} (hk : nk ≤ 8) (f : Nat → Bool) (p : Nat → Int32) : ∀ n, rbB f nk p n < 512
  | 0 => by show (0 : Nat) < 512; decide
  | n + 1 => (zput_c (rbB_lt hk f p n) (by have := zcd_le (fun k => f k && !(rbB f nk p n).testBit k) p nk nk (Nat.le_refl _); omega)).2
def rno (f : Nat → Bool) (nk : Nat) (p : Nat → Int32) (n : Nat) : Bool := decide (zcd (fun k => f k && !(rbB f nk p n).testBit k) p nk nk = 0)
def rBo (f : Nat → Bool) (nk t : Nat) (p : Nat → Int32) : Int32 := if zany (rno f nk p) t = true then 0 else nI (rbB f nk p t)
def mSeA (V : Nat → Nat → Int32) (nk si t : Nat) : Nat → Int32 := upd (upd (upd (upd (upd (upd (upd (upd (upd (fun _ => 0) 0 (V (200 + si) 0)) 1 (V (200 + si) 1)) 2 (V (200 + si) 2)) 3 (V (200 + si) 3)) 4 (zset (zgd (V (300 + si)) (V (400 + si)) (V (200 + si) 3)) 8)) 5 (zset (zst (V (300 + si)) (V (400 + si)) (V (200 + si) 3)) 8)) 6 (zbc (V (200 + si) 4))) 7 (if rBo (zgd (V (300 + si)) (V (400 + si)) (V (200 + si) 3)) nk t (fun k => V (100 + k) 1) = 0 then -1 else zpri (rBo (zgd (V (300 + si)) (V (400 + si)) (V (200 + si) 3)) nk t (fun k => V (100 + k) 1)) (fun k => V (100 + k) 1) nk)) 8 (rBo (zgd (V (300 + si)) (V (400 + si)) (V (200 + si) 3)) nk t (fun k => V (100 + k) 1))
def rSe (nk ns : Nat) (x w t b : Int32) (V : Nat → Nat → Int32) : Prop := (zin x 0 (nI ns - 1) = false ∧ t = 1) ∨ (∃ si, si < ns ∧ x = nI si ∧ ((zin w 0 8 = false ∧ t = 2) ∨ (∃ q, q < 9 ∧ w = nI q ∧ t = 0 ∧ ∃ t9, 1 ≤ t9 ∧ t9 ≤ 4 ∧ V (200 + si) 0 = nI t9 ∧ b = mSeA V nk si t9 q)))

set_option maxHeartbeats 4000000 in
set_option maxRecDepth 100000 in
theorem m_Mo_priceOfE {g0 : State} {d : zD} {l : Launch} {a0 : Array Value} (hs0 : zS0 d a0 g0) (hst : l.stackTraces = false) {G : zG} {B : Nat → Nat} {V : Nat → Nat → Int32} {nk ns ne ec : Nat} (hM : zM d B V nk ns ne ec G) (set : Int32) : zMet g0 d l y_Mo_priceOf c_Mo_priceOf 4 ((Option.some Jvm.ClassFile.FieldType.int)) 11 0 0 [.ref (B 0), .int set] (G) (zEq (some (.int (zpri set (fun k => V (100 + k) 1) nk))) G) (zNo) := by
  have hnk : nk ≤ 8 := hM.2.1
  have hns : ns ≤ 6 := hM.2.2.1
  have hne : ne ≤ 64 := hM.2.2.2.1
  have hp2 : 2 ^ nk ≤ 256 := Nat.pow_le_pow_right (n := 2) (by decide) hnk
  refine z_entry hs0 hst (by decide) (Nat.le_of_ble_eq_true rfl) (fun p e s m args below meth c => ?_)
  refine z_iconst (v := (nI 0)) d_Mo_priceOf_0 (by decide) ?_
  refine z_istore_n (L' := [(2, _), (0, _), (1, _)]) d_Mo_priceOf_1 rfl (by decide) rfl ?_
  refine z_iconst (v := (nI 0)) d_Mo_priceOf_2 (by decide) ?_
  refine z_istore_n (L' := [(3, _), (2, _), (0, _), (1, _)]) d_Mo_priceOf_3 rfl (by decide) rfl ?_
  have key_4 : ∀ (n : Nat) (i : Nat), nk - i < n → (i ≤ nk) → Z g0 d y_Mo_priceOf c_Mo_priceOf 4 ((Option.some Jvm.ClassFile.FieldType.int)) [] p l e (zR 11 0 0) s m args below meth c (vx_MQ below (zQc g0 d (zEq (some (.int (zpri set (fun k => V (100 + k) 1) nk))) G)) (zXc g0 d (zNo)) args s 0 0 (zA g0)) 0 0 (G) [(3, .int (nI i)), (2, .int (zpri set (fun k => V (100 + k) 1) i)), (0, .ref (B 0)), (1, .int set)] [] 4 := by
    intro n
    induction n with
    | zero => intro i h0; exact absurd h0 (Nat.not_lt_zero _)
    | succ n ih_4 =>
      intro i hm_4 hi
      refine z_iload_n 0 d_Mo_priceOf_4 rfl rfl ?_
      refine z_aload_n 2 d_Mo_priceOf_5 rfl rfl ?_
      refine z_get zc_Mo 6 (by decide) qF_Mo_16 hM.mo rfl d_Mo_priceOf_6 ?_
      refine z_callF0 (m_AL_size hs0 hst hM.kl) ym_AL_size zF_AL_size qM_Mo_94 zc_AL hM.kl d_Mo_priceOf_9 rfl (Nat.le_of_ble_eq_true rfl) ⟨Nat.zero_le _, Nat.zero_le _⟩ ⟨Nat.le_of_ble_eq_true rfl, Nat.le_of_ble_eq_true rfl⟩ ?_
      refine z_icmp_ge 54 d_Mo_priceOf_14 (by decide) (fun c_14 => ?_) (fun c_14 => ?_)
      · skip
        obtain rfl : nk = i := by
          have := (nI_leI (a := nk) (b := i) (by omega) (by omega)).mp c_14
          omega
        refine z_iload_n 1 d_Mo_priceOf_54 rfl rfl ?_
        exact z_iret rfl (⟨rfl, rfl⟩) (by first | decide | omega) (by first | decide | omega) d_Mo_priceOf_55
      · skip
        have hi6 : i < nk := Nat.lt_of_not_le fun q => c_14 (nI_le q (by omega))
        refine z_iload_n 1 d_Mo_priceOf_17 rfl rfl ?_
        refine z_iload_n 3 d_Mo_priceOf_18 rfl rfl ?_
        refine z_iload_n 0 d_Mo_priceOf_19 rfl rfl ?_
        refine z_callS0 (m_Mo_has hs0 hst set (nI i)) ym_Mo_has qM_Mo_76 qS_Mo_has d_Mo_priceOf_20 rfl (Nat.le_of_ble_eq_true rfl) ⟨Nat.zero_le _, Nat.zero_le _⟩ ⟨Nat.le_of_ble_eq_true rfl, Nat.le_of_ble_eq_true rfl⟩ ?_
        refine z_if_eq 45 d_Mo_priceOf_23 (by decide) (fun c_23 => ?_) (fun c_23 => ?_)
        · skip
          have hz5 : zpri set (fun k => V (100 + k) 1) i + 0 = zpri set (fun k => V (100 + k) 1) (i + 1) := (Int32.add_zero _).trans (zpri_f (p := (fun k => V (100 + k) 1)) (show zbt set i = false from (zb_0 _).mp c_23))
          refine z_iconst (v := 0) d_Mo_priceOf_45 (by decide) ?_
          refine z_iadd d_Mo_priceOf_46 ?_
          refine z_topv hz5 ?_
          refine z_istore_n (L' := [(2, _), (3, _), (0, _), (1, _)]) d_Mo_priceOf_47 rfl (by decide) rfl ?_
          refine z_iinc (v := nI (i + 1)) (L' := [(3, _), (2, _), (0, _), (1, _)]) 1 d_Mo_priceOf_48 rfl (nI_1 i) (by decide) rfl ?_
          refine z_goto 4 d_Mo_priceOf_51 (by decide) ?_
          exact ih_4 (i + 1) (by omega) (by omega)
        · skip
          have hz5 := zpri_t (p := (fun k => V (100 + k) 1)) (show zbt set i = true from (zb_n0 _).mp c_23)
          refine z_aload_n 2 d_Mo_priceOf_26 rfl rfl ?_
          refine z_get zc_Mo 6 (by decide) qF_Mo_16 hM.mo rfl d_Mo_priceOf_27 ?_
          refine z_iload_n 0 d_Mo_priceOf_30 rfl rfl ?_
          refine z_callF0 (m_AL_get hs0 hst (hM.kA hi6) hi6 (if_pos hi6)) ym_AL_get zF_AL_get qM_Mo_51 zc_AL (hM.kA hi6).1 d_Mo_priceOf_31 rfl (Nat.le_of_ble_eq_true rfl) ⟨Nat.zero_le _, Nat.zero_le _⟩ ⟨Nat.le_of_ble_eq_true rfl, Nat.le_of_ble_eq_true rfl⟩ ?_
          refine z_castS zc_MK qK_Mo_57 (hM.ke hi6) d_Mo_priceOf_36 ?_
          refine z_get zc_MK 1 (by decide) qF_Mo_193 (hM.ke hi6) rfl d_Mo_priceOf_39 ?_
          refine z_goto 46 d_Mo_priceOf_42 (by decide) ?_
          refine z_iadd d_Mo_priceOf_46 ?_
          refine z_topv hz5 ?_
          refine z_istore_n (L' := [(2, _), (3, _), (0, _), (1, _)]) d_Mo_priceOf_47 rfl (by decide) rfl ?_
          refine z_iinc (v := nI (i + 1)) (L' := [(3, _), (2, _), (0, _), (1, _)]) 1 d_Mo_priceOf_48 rfl (nI_1 i) (by decide) rfl ?_
          refine z_goto 4 d_Mo_priceOf_51 (by decide) ?_
          exact ih_4 (i + 1) (by omega) (by omega)
  exact key_4 (nk + 1) 0 (by omega) (by omega)
set_option maxHeartbeats 4000000 in
set_option maxRecDepth 100000 in
theorem m_Mo_boughtE {g0 : State} {d : zD} {l : Launch} {a0 : Array Value} (hs0 : zS0 d a0 g0) (hst : l.stackTraces = false) {G : zG} {B : Nat → Nat} {V : Nat → Nat → Int32} {nk ns ne ec : Nat} (hM : zM d B V nk ns ne ec G) {si : Nat} (hsi : si < ns) {t : Nat} (ht : V (200 + si) 0 = nI t) (ht4 : t ≤ 4) : zMet g0 d l y_Mo_bought c_Mo_bought 6 ((Option.some Jvm.ClassFile.FieldType.int)) 11 0 0 [.ref (B 0), .ref (B (200 + si))] (G) (zEq (some (.int (rBo (zgd (V (300 + si)) (V (400 + si)) (V (200 + si) 3)) nk t (fun k => V (100 + k) 1)))) G) (zNo) := by
  have hnk : nk ≤ 8 := hM.2.1
  have hns : ns ≤ 6 := hM.2.2.1
  have hne : ne ≤ 64 := hM.2.2.2.1
  have hp2 : 2 ^ nk ≤ 256 := Nat.pow_le_pow_right (n := 2) (by decide) hnk
  refine z_entry hs0 hst (by decide) (Nat.le_of_ble_eq_true rfl) (fun p e s m args below meth c => ?_)
  refine z_iconst (v := (nI 0)) d_Mo_bought_0 (by decide) ?_
  refine z_istore_n (L' := [(2, _), (0, _), (1, _)]) d_Mo_bought_1 rfl (by decide) rfl ?_
  refine z_iconst (v := (nI 0)) d_Mo_bought_2 (by decide) ?_
  refine z_istore_n (L' := [(3, _), (2, _), (0, _), (1, _)]) d_Mo_bought_3 rfl (by decide) rfl ?_
  have key_4 : ∀ (n : Nat) (i : Nat), t - i < n → (i ≤ t) → (zany (rno (zgd (V (300 + si)) (V (400 + si)) (V (200 + si) 3)) nk (fun k => V (100 + k) 1)) i = false) → Z g0 d y_Mo_bought c_Mo_bought 6 ((Option.some Jvm.ClassFile.FieldType.int)) [] p l e (zR 11 0 0) s m args below meth c (vx_MQ below (zQc g0 d (zEq (some (.int (rBo (zgd (V (300 + si)) (V (400 + si)) (V (200 + si) 3)) nk t (fun k => V (100 + k) 1)))) G)) (zXc g0 d (zNo)) args s 0 0 (zA g0)) 0 0 (G) [(3, .int (nI i)), (2, .int (nI (rbB (zgd (V (300 + si)) (V (400 + si)) (V (200 + si) 3)) nk (fun k => V (100 + k) 1) i))), (0, .ref (B 0)), (1, .ref (B (200 + si)))] [] 4 := by
    intro n
    induction n with
    | zero => intro i h0; exact absurd h0 (Nat.not_lt_zero _)
    | succ n ih_4 =>
      intro i hm_4 hi hy
      have hb9 := rbB_lt hnk (zgd (V (300 + si)) (V (400 + si)) (V (200 + si) 3)) (fun k => V (100 + k) 1) i
      refine z_iload_n 0 d_Mo_bought_4 rfl rfl ?_
      refine z_aload_n 3 d_Mo_bought_5 rfl rfl ?_
      refine z_get zc_MS 0 (by decide) qF_Mo_69 (hM.se hsi).1 rfl d_Mo_bought_6 ?_
      refine z_topv ht ?_
      refine z_icmp_ge 125 d_Mo_bought_9 (by decide) (fun c_9 => ?_) (fun c_9 => ?_)
      · skip
        obtain rfl : t = i := by
          have := (nI_leI (a := t) (b := i) (by omega) (by omega)).mp c_9
          omega
        refine z_iload_n 1 d_Mo_bought_125 rfl rfl ?_
        exact z_iret rfl (⟨by unfold rBo; rw [hy, if_neg (by decide)], rfl⟩) (by first | decide | omega) (by first | decide | omega) d_Mo_bought_126
      · skip
        have hi6 : i < t := Nat.lt_of_not_le fun q => c_9 (nI_le q (by omega))
        refine z_iconst (v := (-1)) d_Mo_bought_12 (by decide) ?_
        refine z_istore (L' := [(4, _), (3, _), (2, _), (0, _), (1, _)]) d_Mo_bought_13 (by decide) rfl ?_
        refine z_aload_n 3 d_Mo_bought_15 rfl rfl ?_
        refine z_get zc_Mo 6 (by decide) qF_Mo_16 hM.mo rfl d_Mo_bought_16 ?_
        refine z_callF0 (m_AL_size hs0 hst hM.kl) ym_AL_size zF_AL_size qM_Mo_94 zc_AL hM.kl d_Mo_bought_19 rfl (Nat.le_of_ble_eq_true rfl) ⟨Nat.zero_le _, Nat.zero_le _⟩ ⟨Nat.le_of_ble_eq_true rfl, Nat.le_of_ble_eq_true rfl⟩ ?_
        refine z_iconst (v := (nI 1)) d_Mo_bought_24 (by decide) ?_
        refine z_isub d_Mo_bought_25 ?_
        refine z_istore (L' := [(5, _), (4, _), (3, _), (2, _), (0, _), (1, _)]) d_Mo_bought_26 (by decide) rfl ?_
        have key_28 : ∀ (n : Nat) (j q9 : Nat), j < n → (j ≤ nk) → (q9 = (zcd (fun k => (zgd (V (300 + si)) (V (400 + si)) (V (200 + si) 3)) k && !(rbB (zgd (V (300 + si)) (V (400 + si)) (V (200 + si) 3)) nk (fun k => V (100 + k) 1) i).testBit k) (fun k => V (100 + k) 1) nk (nk - j))) → Z g0 d y_Mo_bought c_Mo_bought 6 ((Option.some Jvm.ClassFile.FieldType.int)) [] p l e (zR 11 0 0) s m args below meth c (vx_MQ below (zQc g0 d (zEq (some (.int (rBo (zgd (V (300 + si)) (V (400 + si)) (V (200 + si) 3)) nk t (fun k => V (100 + k) 1)))) G)) (zXc g0 d (zNo)) args s 0 0 (zA g0)) 0 0 (G) [(5, .int (nI j - 1)), (4, .int (zw1 q9)), (3, .int (nI i)), (2, .int (nI (rbB (zgd (V (300 + si)) (V (400 + si)) (V (200 + si) 3)) nk (fun k => V (100 + k) 1) i))), (0, .ref (B 0)), (1, .ref (B (200 + si)))] [] 28 := by
          intro n
          induction n with
          | zero => intro j q9 h0; exact absurd h0 (Nat.not_lt_zero _)
          | succ n ih_28 =>
            intro j q9 hm_28 hj hc
            have hle9 : q9 ≤ nk := by rw [hc]; exact zcd_le _ _ nk _ (by omega)
            refine z_iload 0 d_Mo_bought_28 rfl ?_
            refine z_if_lt 104 d_Mo_bought_30 (by decide) (fun c_30 => ?_) (fun c_30 => ?_)
            · skip
              obtain rfl : j = 0 := by
                by_cases h : j = 0
                · exact h
                · exact absurd c_30 (by rw [nI_s1 (by omega) (by omega)]; exact nI_pos (by omega))
              rw [Nat.sub_zero] at hc
              refine z_iload 1 d_Mo_bought_104 rfl ?_
              refine z_iconst (v := (-1)) d_Mo_bought_106 (by decide) ?_
              refine z_icmp_ne 112 d_Mo_bought_107 (by decide) (fun c_107 => ?_) (fun c_107 => ?_)
              · skip
                have hne9 : ¬ (zcd (fun k => (zgd (V (300 + si)) (V (400 + si)) (V (200 + si) 3)) k && !(rbB (zgd (V (300 + si)) (V (400 + si)) (V (200 + si) 3)) nk (fun k => V (100 + k) 1) i).testBit k) (fun k => V (100 + k) 1) nk nk) = 0 := fun e => c_107 (by rw [hc, e]; rfl)
                obtain ⟨b, rfl⟩ : ∃ b, q9 = b + 1 := ⟨q9 - 1, (by have h9 : q9 ≠ 0 := fun e => hne9 (hc.symm.trans e); omega)⟩
                refine z_iload_n 3 d_Mo_bought_112 rfl rfl ?_
                refine z_iconst (v := 1) d_Mo_bought_113 (by decide) ?_
                refine z_iload 1 d_Mo_bought_114 rfl ?_
                refine z_ishl d_Mo_bought_116 ?_
                refine z_ior d_Mo_bought_117 ?_
                refine z_topv (v := nI (rbB (zgd (V (300 + si)) (V (400 + si)) (V (200 + si) 3)) nk (fun k => V (100 + k) 1) (i + 1))) (by rw [show (rbB (zgd (V (300 + si)) (V (400 + si)) (V (200 + si) 3)) nk (fun k => V (100 + k) 1) (i + 1)) = zput (rbB (zgd (V (300 + si)) (V (400 + si)) (V (200 + si) 3)) nk (fun k => V (100 + k) 1) i) (zcd (fun k => (zgd (V (300 + si)) (V (400 + si)) (V (200 + si) 3)) k && !(rbB (zgd (V (300 + si)) (V (400 + si)) (V (200 + si) 3)) nk (fun k => V (100 + k) 1) i).testBit k) (fun k => V (100 + k) 1) nk nk) from rfl, ← hc]; exact (zput_c (b := b + 1) hb9 (by omega)).1) ?_
                refine z_istore_n (L' := [(2, _), (5, _), (4, _), (3, _), (0, _), (1, _)]) d_Mo_bought_118 rfl (by decide) rfl ?_
                refine z_iinc (v := nI (i + 1)) (L' := [(3, _), (2, _), (5, _), (4, _), (0, _), (1, _)]) 3 d_Mo_bought_119 rfl (nI_1 i) (by decide) rfl ?_
                refine z_goto 4 d_Mo_bought_122 (by decide) ?_
                refine z_sub (L' := [(3, _), (2, _), (0, _), (1, _)]) [0, 1, 4, 5] rfl ?_
                exact ih_4 (i + 1) (by omega) (by omega) (zany_f hy (decide_eq_false hne9))
              · skip
                have hc0 : q9 = 0 := by
                  cases q9 with
                  | zero => rfl
                  | succ b => exact absurd c_107 (zSM.n1 b (by omega))
                refine z_iconst (v := 0) d_Mo_bought_110 (by decide) ?_
                exact z_iret rfl (⟨by unfold rBo; rw [if_pos (zany_t (f := rno (zgd (V (300 + si)) (V (400 + si)) (V (200 + si) 3)) nk (fun k => V (100 + k) 1)) (i := i) (decide_eq_true (hc.symm.trans hc0)) t hi6)], rfl⟩) (by first | decide | omega) (by first | decide | omega) d_Mo_bought_111
            · skip
              have hj1 : 1 ≤ j := Nat.pos_of_ne_zero fun e => c_30 (by subst e; decide)
              have hj6 : j - 1 < nk := by omega
              have e1 : nI j - 1 = nI (j - 1) := nI_s1 hj1 (by omega)
              have ek9 : nk - 1 - (nk - j) = j - 1 := by omega
              have ei9 : nk - (j - 1) = nk - j + 1 := by omega
              refine z_aload_n 5 d_Mo_bought_33 rfl rfl ?_
              refine z_iload 0 d_Mo_bought_34 rfl ?_
              refine z_topv e1 ?_
              refine z_callV0 (m_MS_isGood hs0 hst (hM.se hsi) (show j - 1 < 8 by omega)) ym_MS_isGood qM_Mo_159 qI_MS_isGood qV_MS_MS_isGood zc_MS (hM.se hsi).1 d_Mo_bought_36 rfl (Nat.le_of_ble_eq_true rfl) ⟨Nat.zero_le _, Nat.zero_le _⟩ ⟨Nat.le_of_ble_eq_true rfl, Nat.le_of_ble_eq_true rfl⟩ ?_
              refine z_if_eq 98 d_Mo_bought_39 (by decide) (fun c_39 => ?_) (fun c_39 => ?_)
              · skip
                have hff : (fun k => (zgd (V (300 + si)) (V (400 + si)) (V (200 + si) 3)) k && !(rbB (zgd (V (300 + si)) (V (400 + si)) (V (200 + si) 3)) nk (fun k => V (100 + k) 1) i).testBit k) (nk - 1 - (nk - j)) = false := by
                  show ((zgd (V (300 + si)) (V (400 + si)) (V (200 + si) 3)) (nk - 1 - (nk - j)) && _) = false
                  rw [ek9, show (zgd (V (300 + si)) (V (400 + si)) (V (200 + si) 3)) (j - 1) = false from (zb_0 _).mp c_39, Bool.false_and]
                have hzf : q9 = (zcd (fun k => (zgd (V (300 + si)) (V (400 + si)) (V (200 + si) 3)) k && !(rbB (zgd (V (300 + si)) (V (400 + si)) (V (200 + si) 3)) nk (fun k => V (100 + k) 1) i).testBit k) (fun k => V (100 + k) 1) nk (nk - (j - 1))) := by rw [ei9, zcd_f (Or.inl hff)]; exact hc
                refine z_iinc (v := nI (j - 1) - 1) (L' := [(5, _), (4, _), (3, _), (2, _), (0, _), (1, _)]) 0 d_Mo_bought_98 rfl (by rw [z_m1, e1]) (by decide) rfl ?_
                refine z_goto 28 d_Mo_bought_101 (by decide) ?_
                first
                  | exact ih_28 (j - 1) (j - 1 + 1) (by omega) (by omega) hzt
                  | exact ih_28 (j - 1) _ (by omega) (by omega) hzf
              · skip
                refine z_iload_n 3 d_Mo_bought_42 rfl rfl ?_
                refine z_iload 0 d_Mo_bought_43 rfl ?_
                refine z_topv e1 ?_
                refine z_callS0 (m_Mo_has hs0 hst (nI (rbB (zgd (V (300 + si)) (V (400 + si)) (V (200 + si) 3)) nk (fun k => V (100 + k) 1) i)) (nI (j - 1))) ym_Mo_has qM_Mo_76 qS_Mo_has d_Mo_bought_45 rfl (Nat.le_of_ble_eq_true rfl) ⟨Nat.zero_le _, Nat.zero_le _⟩ ⟨Nat.le_of_ble_eq_true rfl, Nat.le_of_ble_eq_true rfl⟩ ?_
                refine z_if_ne 98 d_Mo_bought_48 (by decide) (fun c_48 => ?_) (fun c_48 => ?_)
                · skip
                  have hff : (fun k => (zgd (V (300 + si)) (V (400 + si)) (V (200 + si) 3)) k && !(rbB (zgd (V (300 + si)) (V (400 + si)) (V (200 + si) 3)) nk (fun k => V (100 + k) 1) i).testBit k) (nk - 1 - (nk - j)) = false := by
                    show ((zgd (V (300 + si)) (V (400 + si)) (V (200 + si) 3)) (nk - 1 - (nk - j)) && !(rbB (zgd (V (300 + si)) (V (400 + si)) (V (200 + si) 3)) nk (fun k => V (100 + k) 1) i).testBit (nk - 1 - (nk - j))) = false
                    rw [ek9, show (rbB (zgd (V (300 + si)) (V (400 + si)) (V (200 + si) 3)) nk (fun k => V (100 + k) 1) i).testBit (j - 1) = true from (tb_zbt _ hb9 (j - 1) (by omega)).symm.trans ((zb_n0 _).mp c_48), Bool.not_true, Bool.and_false]
                  have hzf : q9 = (zcd (fun k => (zgd (V (300 + si)) (V (400 + si)) (V (200 + si) 3)) k && !(rbB (zgd (V (300 + si)) (V (400 + si)) (V (200 + si) 3)) nk (fun k => V (100 + k) 1) i).testBit k) (fun k => V (100 + k) 1) nk (nk - (j - 1))) := by rw [ei9, zcd_f (Or.inl hff)]; exact hc
                  refine z_iinc (v := nI (j - 1) - 1) (L' := [(5, _), (4, _), (3, _), (2, _), (0, _), (1, _)]) 0 d_Mo_bought_98 rfl (by rw [z_m1, e1]) (by decide) rfl ?_
                  refine z_goto 28 d_Mo_bought_101 (by decide) ?_
                  first
                    | exact ih_28 (j - 1) (j - 1 + 1) (by omega) (by omega) hzt
                    | exact ih_28 (j - 1) _ (by omega) (by omega) hzf
                · skip
                  have hft : (fun k => (zgd (V (300 + si)) (V (400 + si)) (V (200 + si) 3)) k && !(rbB (zgd (V (300 + si)) (V (400 + si)) (V (200 + si) 3)) nk (fun k => V (100 + k) 1) i).testBit k) (nk - 1 - (nk - j)) = true := by
                    show ((zgd (V (300 + si)) (V (400 + si)) (V (200 + si) 3)) (nk - 1 - (nk - j)) && !(rbB (zgd (V (300 + si)) (V (400 + si)) (V (200 + si) 3)) nk (fun k => V (100 + k) 1) i).testBit (nk - 1 - (nk - j))) = true
                    rw [ek9, show (zgd (V (300 + si)) (V (400 + si)) (V (200 + si) 3)) (j - 1) = true from (zb_n0 _).mp c_39, show (rbB (zgd (V (300 + si)) (V (400 + si)) (V (200 + si) 3)) nk (fun k => V (100 + k) 1) i).testBit (j - 1) = false from (tb_zbt _ hb9 (j - 1) (by omega)).symm.trans ((zb_0 _).mp c_48)]
                    rfl
                  refine z_iload 1 d_Mo_bought_51 rfl ?_
                  refine z_iconst (v := (-1)) d_Mo_bought_53 (by decide) ?_
                  refine z_icmp_eq 94 d_Mo_bought_54 (by decide) (fun c_54 => ?_) (fun c_54 => ?_)
                  · skip
                    have hc0 : q9 = 0 := by
                      cases q9 with
                      | zero => rfl
                      | succ b => exact absurd c_54 (zSM.n1 b (by omega))
                    have hzt : j - 1 + 1 = (zcd (fun k => (zgd (V (300 + si)) (V (400 + si)) (V (200 + si) 3)) k && !(rbB (zgd (V (300 + si)) (V (400 + si)) (V (200 + si) 3)) nk (fun k => V (100 + k) 1) i).testBit k) (fun k => V (100 + k) 1) nk (nk - (j - 1))) := by rw [ei9, zcd_t hft (Or.inl (hc.symm.trans hc0)), ek9]
                    refine z_iload 0 d_Mo_bought_94 rfl ?_
                    refine z_topv e1 ?_
                    refine z_istore (L' := [(4, _), (5, _), (3, _), (2, _), (0, _), (1, _)]) d_Mo_bought_96 (by decide) rfl ?_
                    refine z_iinc (v := nI (j - 1) - 1) (L' := [(5, _), (4, _), (3, _), (2, _), (0, _), (1, _)]) 1 d_Mo_bought_98 rfl (by rw [z_m1, e1]) (by decide) rfl ?_
                    refine z_goto 28 d_Mo_bought_101 (by decide) ?_
                    first
                      | exact ih_28 (j - 1) (j - 1 + 1) (by omega) (by omega) hzt
                      | exact ih_28 (j - 1) _ (by omega) (by omega) hzf
                  · skip
                    obtain ⟨b, rfl⟩ : ∃ b, q9 = b + 1 := ⟨q9 - 1, (by have h9 : q9 ≠ 0 := fun e => c_54 (by rw [e]; rfl); omega)⟩
                    have hb6 : b < nk := by omega
                    refine z_aload_n 4 d_Mo_bought_57 rfl rfl ?_
                    refine z_get zc_Mo 6 (by decide) qF_Mo_16 hM.mo rfl d_Mo_bought_58 ?_
                    refine z_iload 0 d_Mo_bought_61 rfl ?_
                    refine z_topv e1 ?_
                    refine z_callF0 (m_AL_get hs0 hst (hM.kA hj6) hj6 (if_pos hj6)) ym_AL_get zF_AL_get qM_Mo_51 zc_AL (hM.kA hj6).1 d_Mo_bought_63 rfl (Nat.le_of_ble_eq_true rfl) ⟨Nat.zero_le _, Nat.zero_le _⟩ ⟨Nat.le_of_ble_eq_true rfl, Nat.le_of_ble_eq_true rfl⟩ ?_
                    refine z_castS zc_MK qK_Mo_57 (hM.ke hj6) d_Mo_bought_68 ?_
                    refine z_get zc_MK 1 (by decide) qF_Mo_193 (hM.ke hj6) rfl d_Mo_bought_71 ?_
                    refine z_aload_n 4 d_Mo_bought_74 rfl rfl ?_
                    refine z_get zc_Mo 6 (by decide) qF_Mo_16 hM.mo rfl d_Mo_bought_75 ?_
                    refine z_iload 1 d_Mo_bought_78 rfl ?_
                    refine z_topv (v := nI b) rfl ?_
                    refine z_callF0 (m_AL_get hs0 hst (hM.kA hb6) hb6 (if_pos hb6)) ym_AL_get zF_AL_get qM_Mo_51 zc_AL (hM.kA hb6).1 d_Mo_bought_80 rfl (Nat.le_of_ble_eq_true rfl) ⟨Nat.zero_le _, Nat.zero_le _⟩ ⟨Nat.le_of_ble_eq_true rfl, Nat.le_of_ble_eq_true rfl⟩ ?_
                    refine z_castS zc_MK qK_Mo_57 (hM.ke hb6) d_Mo_bought_85 ?_
                    refine z_get zc_MK 1 (by decide) qF_Mo_193 (hM.ke hb6) rfl d_Mo_bought_88 ?_
                    refine z_icmp_gt 98 d_Mo_bought_91 (by decide) (fun c_91 => ?_) (fun c_91 => ?_)
                    · skip
                      have hzf : b + 1 = (zcd (fun k => (zgd (V (300 + si)) (V (400 + si)) (V (200 + si) 3)) k && !(rbB (zgd (V (300 + si)) (V (400 + si)) (V (200 + si) 3)) nk (fun k => V (100 + k) 1) i).testBit k) (fun k => V (100 + k) 1) nk (nk - (j - 1))) := by rw [ei9, zcd_f (Or.inr (fun q => q.elim (fun e => by rw [← hc] at e; cases e) (fun e => e (by rw [← hc, ek9]; exact c_91))))]; exact hc
                      refine z_iinc (v := nI (j - 1) - 1) (L' := [(5, _), (4, _), (3, _), (2, _), (0, _), (1, _)]) 0 d_Mo_bought_98 rfl (by rw [z_m1, e1]) (by decide) rfl ?_
                      refine z_goto 28 d_Mo_bought_101 (by decide) ?_
                      first
                        | exact ih_28 (j - 1) (j - 1 + 1) (by omega) (by omega) hzt
                        | exact ih_28 (j - 1) _ (by omega) (by omega) hzf
                    · skip
                      have hzt : j - 1 + 1 = (zcd (fun k => (zgd (V (300 + si)) (V (400 + si)) (V (200 + si) 3)) k && !(rbB (zgd (V (300 + si)) (V (400 + si)) (V (200 + si) 3)) nk (fun k => V (100 + k) 1) i).testBit k) (fun k => V (100 + k) 1) nk (nk - (j - 1))) := by rw [ei9, zcd_t hft (Or.inr (fun q => c_91 (by rw [← hc, ek9] at q; exact q))), ek9]
                      refine z_iload 0 d_Mo_bought_94 rfl ?_
                      refine z_topv e1 ?_
                      refine z_istore (L' := [(4, _), (5, _), (3, _), (2, _), (0, _), (1, _)]) d_Mo_bought_96 (by decide) rfl ?_
                      refine z_iinc (v := nI (j - 1) - 1) (L' := [(5, _), (4, _), (3, _), (2, _), (0, _), (1, _)]) 1 d_Mo_bought_98 rfl (by rw [z_m1, e1]) (by decide) rfl ?_
                      refine z_goto 28 d_Mo_bought_101 (by decide) ?_
                      first
                        | exact ih_28 (j - 1) (j - 1 + 1) (by omega) (by omega) hzt
                        | exact ih_28 (j - 1) _ (by omega) (by omega) hzf
        exact key_28 (nk + 1) nk 0 (by omega) (by omega) (by rw [Nat.sub_self]; rfl)
  exact key_4 (t + 1) 0 (by omega) (by omega) rfl
set_option maxHeartbeats 4000000 in
set_option maxRecDepth 100000 in
theorem m_Mo_secretNowE {g0 : State} {d : zD} {l : Launch} {a0 : Array Value} (hs0 : zS0 d a0 g0) (hst : l.stackTraces = false) {G : zG} {B : Nat → Nat} {V : Nat → Nat → Int32} {nk ns ne ec : Nat} (hM : zM d B V nk ns ne ec G) {si : Nat} (hsi : si < ns) {w : Nat} (hw : w < 9) {t : Nat} (ht : V (200 + si) 0 = nI t) (ht4 : t ≤ 4) {f9 : Nat} (hf9 : f9 < 512) (ef9 : V (200 + si) 4 = nI f9) : zMet g0 d l y_Mo_secretNow c_Mo_secretNow 6 ((Option.some Jvm.ClassFile.FieldType.int)) 12 1 9 [.ref (B 0), .int (nI si), .int (nI w)] (G) (fun r G1 => r = some (.int (mSeA V nk si t w)) ∧ zM d B V nk ns ne ec G1 ∧ mFr B nk ns ne G G1) (zNo) := by
  have hnk : nk ≤ 8 := hM.2.1
  have hns : ns ≤ 6 := hM.2.2.1
  have hne : ne ≤ 64 := hM.2.2.2.1
  have hp2 : 2 ^ nk ≤ 256 := Nat.pow_le_pow_right (n := 2) (by decide) hnk
  refine z_entry hs0 hst (by decide) (Nat.le_of_ble_eq_true rfl) (fun p e s m args below meth c => ?_)
  refine z_aload_n 0 d_Mo_secretNow_0 rfl rfl ?_
  refine z_get zc_Mo 7 (by decide) qF_Mo_20 hM.mo rfl d_Mo_secretNow_1 ?_
  refine z_iload_n 1 d_Mo_secretNow_4 rfl rfl ?_
  refine z_callF0 (m_AL_get hs0 hst (hM.sA hsi) hsi (if_pos hsi)) ym_AL_get zF_AL_get qM_Mo_51 zc_AL (hM.sA hsi).1 d_Mo_secretNow_5 rfl (Nat.le_of_ble_eq_true rfl) ⟨by decide, by decide⟩ ⟨Nat.le_of_ble_eq_true rfl, Nat.le_of_ble_eq_true rfl⟩ ?_
  refine z_castS zc_MS qK_Mo_47 (hM.se hsi).1 d_Mo_secretNow_10 ?_
  refine z_astore_n (L' := [(3, _), (0, _), (1, _), (2, _)]) d_Mo_secretNow_13 rfl (by decide) rfl ?_
  refine z_aload_n 1 d_Mo_secretNow_14 rfl rfl ?_
  refine z_aload_n 0 d_Mo_secretNow_15 rfl rfl ?_
  refine z_callV0 ((m_Mo_boughtE hs0 hst hM hsi ht ht4)) ym_Mo_bought qM_Mo_203 qI_Mo_bought qV_Mo_Mo_bought zc_Mo hM.mo d_Mo_secretNow_16 rfl (Nat.le_of_ble_eq_true rfl) ⟨by decide, by decide⟩ ⟨Nat.le_of_ble_eq_true rfl, Nat.le_of_ble_eq_true rfl⟩ ?_
  refine z_istore (L' := [(4, _), (3, _), (0, _), (1, _), (2, _)]) d_Mo_secretNow_19 (by decide) rfl ?_
  refine z_bipush (v := 9) d_Mo_secretNow_21 (by decide) ?_
  refine z_newaI 9 qA_int (by decide) rfl (by decide) ⟨by decide, by decide⟩ d_Mo_secretNow_23 (fun a ha hab => ?_)
  have hMo : ∀ w, zM d B V nk ns ne ec (zu G a w) := fun w => hM.out (hM.nn_ ha)
  refine z_dup d_Mo_secretNow_25 rfl ?_
  refine z_iconst (v := (nI 0)) d_Mo_secretNow_26 (by decide) ?_
  refine z_aload_n 1 d_Mo_secretNow_27 rfl rfl ?_
  refine z_get zc_MS 0 (by decide) qF_Mo_69 ((hMo _).se hsi).1 rfl d_Mo_secretNow_28 ?_
  refine z_iastN zu_s (show 0 < 9 by decide) (by decide) d_Mo_secretNow_31 ?_
  refine z_one ?_
  refine z_dup d_Mo_secretNow_32 rfl ?_
  refine z_iconst (v := (nI 1)) d_Mo_secretNow_33 (by decide) ?_
  refine z_aload_n 1 d_Mo_secretNow_34 rfl rfl ?_
  refine z_get zc_MS 1 (by decide) qF_Mo_99 ((hMo _).se hsi).1 rfl d_Mo_secretNow_35 ?_
  refine z_iastN zu_s (show 1 < 9 by decide) (by decide) d_Mo_secretNow_38 ?_
  refine z_one ?_
  refine z_dup d_Mo_secretNow_39 rfl ?_
  refine z_iconst (v := (nI 2)) d_Mo_secretNow_40 (by decide) ?_
  refine z_aload_n 1 d_Mo_secretNow_41 rfl rfl ?_
  refine z_get zc_MS 2 (by decide) qF_Mo_105 ((hMo _).se hsi).1 rfl d_Mo_secretNow_42 ?_
  refine z_iastN zu_s (show 2 < 9 by decide) (by decide) d_Mo_secretNow_45 ?_
  refine z_one ?_
  refine z_dup d_Mo_secretNow_46 rfl ?_
  refine z_iconst (v := (nI 3)) d_Mo_secretNow_47 (by decide) ?_
  refine z_aload_n 1 d_Mo_secretNow_48 rfl rfl ?_
  refine z_get zc_MS 3 (by decide) qF_Mo_153 ((hMo _).se hsi).1 rfl d_Mo_secretNow_49 ?_
  refine z_iastN zu_s (show 3 < 9 by decide) (by decide) d_Mo_secretNow_52 ?_
  refine z_one ?_
  refine z_dup d_Mo_secretNow_53 rfl ?_
  refine z_iconst (v := (nI 4)) d_Mo_secretNow_54 (by decide) ?_
  refine z_aload_n 1 d_Mo_secretNow_55 rfl rfl ?_
  refine z_callV0 (m_MS_good hs0 hst ((hMo _).se hsi)) ym_MS_good qM_Mo_62 qI_MS_good qV_MS_MS_good zc_MS ((hMo _).se hsi).1 d_Mo_secretNow_56 rfl (Nat.le_of_ble_eq_true rfl) ⟨by decide, by decide⟩ ⟨Nat.le_of_ble_eq_true rfl, Nat.le_of_ble_eq_true rfl⟩ ?_
  refine z_iastN zu_s (show 4 < 9 by decide) (by decide) d_Mo_secretNow_59 ?_
  refine z_one ?_
  refine z_dup d_Mo_secretNow_60 rfl ?_
  refine z_iconst (v := (nI 5)) d_Mo_secretNow_61 (by decide) ?_
  refine z_aload_n 1 d_Mo_secretNow_62 rfl rfl ?_
  refine z_callV0 (m_MS_stale hs0 hst ((hMo _).se hsi)) ym_MS_stale qM_Mo_156 qI_MS_stale qV_MS_MS_stale zc_MS ((hMo _).se hsi).1 d_Mo_secretNow_63 rfl (Nat.le_of_ble_eq_true rfl) ⟨by decide, by decide⟩ ⟨Nat.le_of_ble_eq_true rfl, Nat.le_of_ble_eq_true rfl⟩ ?_
  refine z_iastN zu_s (show 5 < 9 by decide) (by decide) d_Mo_secretNow_66 ?_
  refine z_one ?_
  refine z_dup d_Mo_secretNow_67 rfl ?_
  refine z_bipush (v := (nI 6)) d_Mo_secretNow_68 (by decide) ?_
  refine z_aload_n 1 d_Mo_secretNow_70 rfl rfl ?_
  refine z_get zc_MS 4 (by decide) qF_Mo_108 ((hMo _).se hsi).1 rfl d_Mo_secretNow_71 ?_
  refine z_topv ef9 ?_
  refine z_callS0 ((m_Mo_size hs0 hst (nn := f9) (by omega))) ym_Mo_size qM_Mo_66 qS_Mo_size d_Mo_secretNow_74 rfl (Nat.le_of_ble_eq_true rfl) ⟨by decide, by decide⟩ ⟨Nat.le_of_ble_eq_true rfl, Nat.le_of_ble_eq_true rfl⟩ ?_
  refine z_topv (v := zbc (V (200 + si) 4)) (by rw [ef9]; exact (zbc_512 f9 hf9).symm) ?_
  refine z_iastN zu_s (show 6 < 9 by decide) (by decide) d_Mo_secretNow_77 ?_
  refine z_one ?_
  refine z_dup d_Mo_secretNow_78 rfl ?_
  refine z_bipush (v := (nI 7)) d_Mo_secretNow_79 (by decide) ?_
  refine z_iload 0 d_Mo_secretNow_81 rfl ?_
  refine z_if_ne 90 d_Mo_secretNow_83 (by decide) (fun c_83 => ?_) (fun c_83 => ?_)
  · skip
    refine z_aload_n 2 d_Mo_secretNow_90 rfl rfl ?_
    refine z_iload 0 d_Mo_secretNow_91 rfl ?_
    refine z_callV1 ((m_Mo_priceOfE hs0 hst (hMo _) _)) ym_Mo_priceOf qM_Mo_207 qI_Mo_priceOf qV_Mo_Mo_priceOf zc_Mo (hMo _).mo d_Mo_secretNow_93 rfl (Nat.le_of_ble_eq_true rfl) ⟨by decide, by decide⟩ ⟨Nat.le_of_ble_eq_true rfl, Nat.le_of_ble_eq_true rfl⟩ ?_
    refine z_iastN zu_s (show 7 < 9 by decide) (by decide) d_Mo_secretNow_96 ?_
    refine z_one ?_
    refine z_dup d_Mo_secretNow_97 rfl ?_
    refine z_bipush (v := (nI 8)) d_Mo_secretNow_98 (by decide) ?_
    refine z_iload 0 d_Mo_secretNow_100 rfl ?_
    refine z_iastN zu_s (show 8 < 9 by decide) (by decide) d_Mo_secretNow_102 ?_
    refine z_one ?_
    refine z_astore (L' := [(5, _), (4, _), (3, _), (0, _), (1, _), (2, _)]) d_Mo_secretNow_103 (by decide) rfl ?_
    refine z_aload 0 d_Mo_secretNow_105 rfl ?_
    refine z_iload_n 5 d_Mo_secretNow_107 rfl rfl ?_
    refine z_ialdN zu_s (hw) (by decide) d_Mo_secretNow_108 ?_
    exact z_iret rfl (⟨by unfold mSeA; first | rw [if_neg c_83] | rw [if_pos c_83], hMo _, zFr.new ha⟩) (by first | decide | omega) (by first | decide | omega) d_Mo_secretNow_109
  · skip
    refine z_iconst (v := (-1)) d_Mo_secretNow_86 (by decide) ?_
    refine z_goto 96 d_Mo_secretNow_87 (by decide) ?_
    refine z_iastN zu_s (show 7 < 9 by decide) (by decide) d_Mo_secretNow_96 ?_
    refine z_one ?_
    refine z_dup d_Mo_secretNow_97 rfl ?_
    refine z_bipush (v := (nI 8)) d_Mo_secretNow_98 (by decide) ?_
    refine z_iload 0 d_Mo_secretNow_100 rfl ?_
    refine z_iastN zu_s (show 8 < 9 by decide) (by decide) d_Mo_secretNow_102 ?_
    refine z_one ?_
    refine z_astore (L' := [(5, _), (4, _), (3, _), (0, _), (1, _), (2, _)]) d_Mo_secretNow_103 (by decide) rfl ?_
    refine z_aload 0 d_Mo_secretNow_105 rfl ?_
    refine z_iload_n 5 d_Mo_secretNow_107 rfl rfl ?_
    refine z_ialdN zu_s (hw) (by decide) d_Mo_secretNow_108 ?_
    exact z_iret rfl (⟨by unfold mSeA; first | rw [if_neg c_83] | rw [if_pos c_83], hMo _, zFr.new ha⟩) (by first | decide | omega) (by first | decide | omega) d_Mo_secretNow_109
set_option maxHeartbeats 4000000 in
set_option maxRecDepth 100000 in
theorem m_Mo_ofSecretE {g0 : State} {d : zD} {l : Launch} {a0 : Array Value} (hs0 : zS0 d a0 g0) (hst : l.stackTraces = false) {G : zG} {B : Nat → Nat} {V : Nat → Nat → Int32} {nk ns ne ec : Nat} (hM : zM d B V nk ns ne ec G) (x w : Int32) (hfz : ∀ si, si < ns → ∃ f, f < 4 ∧ V (200 + si) 4 = nI f) : zMet g0 d l y_Mo_ofSecret c_Mo_ofSecret 3 ((Option.some Jvm.ClassFile.FieldType.int)) 13 1 9 [.ref (B 0), .int x, .int w] (G) (mAq d B nk ns ne ec V G (rSe nk ns x w)) (zNo) := by
  have hnk : nk ≤ 8 := hM.2.1
  have hns : ns ≤ 6 := hM.2.2.1
  have hne : ne ≤ 64 := hM.2.2.2.1
  have hp2 : 2 ^ nk ≤ 256 := Nat.pow_le_pow_right (n := 2) (by decide) hnk
  refine z_entry hs0 hst (by decide) (Nat.le_of_ble_eq_true rfl) (fun p e s m args below meth c => ?_)
  refine z_aload_n 0 d_Mo_ofSecret_0 rfl rfl ?_
  refine z_iconst (v := 0) d_Mo_ofSecret_1 (by decide) ?_
  refine z_put zc_Mo 0 (by decide) qF_Mo_36 hM.mo rfl rfl rfl (Nat.le_of_ble_eq_true rfl) d_Mo_ofSecret_2 ?_
  obtain ⟨V1, hM1, hK1, hF1, hT1⟩ := hM.putT 0
  refine z_aload_n 0 d_Mo_ofSecret_5 rfl rfl ?_
  refine z_iload_n 1 d_Mo_ofSecret_6 rfl rfl ?_
  refine z_callV0 (m_Mo_isSecret hs0 hst hM1 x) ym_Mo_isSecret qM_Mo_147 qI_Mo_isSecret qV_Mo_Mo_isSecret zc_Mo hM1.mo d_Mo_ofSecret_7 rfl (Nat.le_of_ble_eq_true rfl) ⟨by decide, by decide⟩ ⟨Nat.le_of_ble_eq_true rfl, Nat.le_of_ble_eq_true rfl⟩ ?_
  refine z_if_ne 19 d_Mo_ofSecret_10 (by decide) (fun c_10 => ?_) (fun c_10 => ?_)
  · skip
    obtain ⟨si, hsi, rfl⟩ := zin_n ((zb_n0 _).mp c_10) (by omega)
    obtain ⟨t, ht1, ht4, ht⟩ := hM1.tn hsi
    obtain ⟨f9, hf9, ef9⟩ := hfz si hsi
    refine z_iload_n 2 d_Mo_ofSecret_19 rfl rfl ?_
    refine z_iconst (v := 0) d_Mo_ofSecret_20 (by decide) ?_
    refine z_bipush (v := (nI 8)) d_Mo_ofSecret_21 (by decide) ?_
    refine z_callS0 (m_Mo_in hs0 hst w 0 _) ym_Mo_in qM_Mo_115 qS_Mo_in d_Mo_ofSecret_23 rfl (Nat.le_of_ble_eq_true rfl) ⟨by decide, by decide⟩ ⟨Nat.le_of_ble_eq_true rfl, Nat.le_of_ble_eq_true rfl⟩ ?_
    refine z_if_ne 35 d_Mo_ofSecret_26 (by decide) (fun c_26 => ?_) (fun c_26 => ?_)
    · skip
      obtain ⟨wi, hwi, rfl⟩ := zin_l ((zb_n0 _).mp c_26) (by decide)
      refine z_aload_n 0 d_Mo_ofSecret_35 rfl rfl ?_
      refine z_iload_n 1 d_Mo_ofSecret_36 rfl rfl ?_
      refine z_iload_n 2 d_Mo_ofSecret_37 rfl rfl ?_
      refine z_callVp1 ((m_Mo_secretNowE hs0 hst hM1 hsi hwi ht ht4 (f9 := f9) (by omega) (by rw [hK1.row (r := 200 + si) (by omega) (by omega) (by omega)]; exact ef9))) ym_Mo_secretNow qM_Mo_210 qI_Mo_secretNow qV_Mo_Mo_secretNow zc_Mo hM1.mo d_Mo_ofSecret_38 rfl (Nat.le_of_ble_eq_true rfl) ⟨by decide, by decide⟩ ⟨Nat.le_of_ble_eq_true rfl, Nat.le_of_ble_eq_true rfl⟩ (fun r_38 G_38 hp_38 => ?_)
      obtain ⟨hr_38, hM2, hF2⟩ := hp_38
      obtain rfl : r_38 = _ := hr_38
      exact z_iret rfl (⟨_, V1, rfl, Or.inr ⟨si, hsi, rfl, Or.inr ⟨wi, hwi, rfl, hT1, t, ht1, ht4, ht, rfl⟩⟩, hM2, hK1, hF1.tr hF2⟩) (by first | decide | omega) (by first | decide | omega) d_Mo_ofSecret_41
    · skip
      refine z_aload_n 0 d_Mo_ofSecret_29 rfl rfl ?_
      refine z_iconst (v := 2) d_Mo_ofSecret_30 (by decide) ?_
      refine z_callV0 (m_Mo_no hs0 hst hM1.mo 2) ym_Mo_no qM_Mo_119 qI_Mo_no qV_Mo_Mo_no zc_Mo hM1.mo d_Mo_ofSecret_31 rfl (Nat.le_of_ble_eq_true rfl) ⟨by decide, by decide⟩ ⟨Nat.le_of_ble_eq_true rfl, Nat.le_of_ble_eq_true rfl⟩ ?_
      obtain ⟨V9, hM9, hK9, hF9, hT9⟩ := hM1.putT 2
      exact z_iret rfl (⟨_, V9, rfl, Or.inr ⟨si, hsi, rfl, Or.inl ⟨(zb_0 _).mp c_26, hT9⟩⟩, hM9, hK1.tr hK9, hF1.tr hF9⟩) (by first | decide | omega) (by first | decide | omega) d_Mo_ofSecret_34
  · skip
    refine z_aload_n 0 d_Mo_ofSecret_13 rfl rfl ?_
    refine z_iconst (v := 1) d_Mo_ofSecret_14 (by decide) ?_
    refine z_callV0 (m_Mo_no hs0 hst hM1.mo 1) ym_Mo_no qM_Mo_119 qI_Mo_no qV_Mo_Mo_no zc_Mo hM1.mo d_Mo_ofSecret_15 rfl (Nat.le_of_ble_eq_true rfl) ⟨by decide, by decide⟩ ⟨Nat.le_of_ble_eq_true rfl, Nat.le_of_ble_eq_true rfl⟩ ?_
    obtain ⟨V9, hM9, hK9, hF9, hT9⟩ := hM1.putT 1
    exact z_iret rfl (⟨_, V9, rfl, Or.inl ⟨(zb_0 _).mp c_10, hT9⟩, hM9, hK1.tr hK9, hF1.tr hF9⟩) (by first | decide | omega) (by first | decide | omega) d_Mo_ofSecret_18
