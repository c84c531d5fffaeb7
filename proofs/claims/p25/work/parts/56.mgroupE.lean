
/-! the reference's group, exact -/
/-- what keeper k gives -/
def mgv (V : Nat → Nat → Int32) (si k : Nat) : Int32 := zr97 (V (300 + si) k + V (100 + k) 3)
theorem zcnt_2 {q : Nat} (hq : q < 256) : ∀ n, n ≤ 8 → zcnt (fun p => (2 * q).testBit p) (n + 1) = zcnt (fun k => q.testBit k) n
  | 0, _ => zcnt_skip (f := fun p => (2 * q).testBit p) (n := 0) (tb_2 q hq).1
  | n + 1, h => by
    have ih := zcnt_2 hq n (by omega)
    show zcnt (fun p => (2 * q).testBit p) (n + 1) + (if (2 * q).testBit (n + 1) then 1 else 0) = zcnt (fun k => q.testBit k) n + (if q.testBit n then 1 else 0)
    rw [ih, (tb_2 q hq).2 n (by omega)]
theorem zal_th {inv pt nb h : Nat → Int32} {iv : Nat → Nat} {q x : Nat} (hi : zIv inv iv) (hs : zSm h q) (hq : q < 256) (hx : x < 97) (hpt : ∀ n, n < 8 → q.testBit n = true → pt (zcnt (fun k => q.testBit k) n) = nI (n + 1) ∧ nb (zcnt (fun k => q.testBit k) n) = h n) : zr97 (zmO inv pt nb (nI x) (zcnt (fun k => q.testBit k) 8) (zcnt (fun k => q.testBit k) 8)) = zth inv (gvs h) (nI (2 * q)) (nI x) := by
  have key := zm_th (set := nI (2 * q)) (b := fun p => (2 * q).testBit p) (gv := gvs h) (pt := pt) (nb := nb) hi (fun k hk => tb_zbt (2 * q) (by omega) k hk) (hs.g hq (fun k _ h1 => h1)) hx (fun n hn h1 => by
    match n, hn, h1 with
    | 0, _, h1 => rw [(tb_2 q hq).1] at h1; cases h1
    | n + 1, hn, h1 =>
      rw [(tb_2 q hq).2 n (by omega)] at h1
      rw [zcnt_2 hq n (by omega)]
      exact hpt n (by omega) h1)
  rw [zcnt_2 hq 8 (Nat.le_refl 8)] at key
  exact key
/-- the points of a set laid, of the first i keepers -/
def zAl (V V2 : Nat → Nat → Int32) (si q i : Nat) : Prop := zKp msc V V2 ∧ ∀ n, n < i → q.testBit n = true → V2 8 (zcnt (fun k => q.testBit k) n) = nI (n + 1) ∧ V2 9 (zcnt (fun k => q.testBit k) n) = mgv V si n
theorem zKp.mg {V V2 : Nat → Nat → Int32} (h : zKp msc V V2) (si : Nat) : mgv V2 si = mgv V si := funext fun k => by
  unfold mgv
  rw [h (300 + si) (by unfold msc; omega), h (100 + k) (by unfold msc; omega)]
theorem zKp.r {V V2 : Nat → Nat → Int32} (h : zKp msc V V2) {r : Nat} (h8 : r ≠ 8) (h9 : r ≠ 9) : V2 r = V r := h r (by unfold msc; omega)
theorem zSm.sub {h : Nat → Int32} {g q : Nat} (hs : zSm h g) (hsub : ∀ k, k < 8 → q.testBit k = true → g.testBit k = true) : zSm h q := fun k hk h1 => hs k hk (hsub k hk h1)
section ZAL
variable {d : zD} {B : Nat → Nat} {V V2 : Nat → Nat → Int32} {nk ns ne ec : Nat} {G : zG} {si q i : Nat}
theorem zM.putPE (h : zM d B V nk ns ne ec G) (v : Nat → Int32) : zM d B (rset V 8 v) nk ns ne ec (zu G (B 8) (zI d 8 v)) ∧ mFr B nk ns ne G (zu G (B 8) (zI d 8 v)) :=
  ⟨h.put (ml_s 8) v rfl rfl (h.2.off (Or.inl (by decide))), zM.frput (ml_s 8) rfl⟩
theorem zM.putNE (h : zM d B V nk ns ne ec G) (v : Nat → Int32) : zM d B (rset V 9 v) nk ns ne ec (zu G (B 9) (zI d 8 v)) ∧ mFr B nk ns ne G (zu G (B 9) (zI d 8 v)) :=
  ⟨h.put (ml_s 9) v rfl rfl (h.2.off (Or.inl (by decide))), zM.frput (ml_s 9) rfl⟩
theorem zAl.z : zAl V V si q 0 := ⟨zKp.rf, fun n hn => absurd hn (Nat.not_lt_zero _)⟩
theorem zAl.skip (h : zAl V V2 si q i) (hf : q.testBit i = false) : zAl V V2 si q (i + 1) := by
  refine ⟨h.1, fun n hn h1 => h.2 n ?_ h1⟩
  have : n ≠ i := fun e => by rw [e, hf] at h1; cases h1
  omega
theorem zAl.add (h : zAl V V2 si q i) (hf : q.testBit i = true) : zAl V (rset (rset V2 8 (upd (V2 8) (zcnt (fun k => q.testBit k) i) (nI i + 1))) 9 (upd (V2 9) (zcnt (fun k => q.testBit k) i) (mgv V2 si i))) si q (i + 1) := by
  refine ⟨(h.1.tr (zKp.set (Or.inl rfl))).tr (zKp.set (Or.inr rfl)), fun n hn h1 => ?_⟩
  rw [rset_n (by decide), rset_s, rset_s]
  by_cases e : n = i
  · subst e
    rw [pk_us, pk_us, nI_1, h.1.mg]
    exact ⟨rfl, rfl⟩
  · have : zcnt (fun k => q.testBit k) n ≠ zcnt (fun k => q.testBit k) i := fun c => e ((zcnt_inj (f := fun k => q.testBit k) h1 hf).mp c)
    rw [pk_un this, pk_un this]
    exact h.2 n (by omega) h1
end ZAL
theorem zsN_t {f : Nat → Bool} {i : Nat} (hi : i < 9) (h : f i = true) : nI (zsetN f i) ||| (1 <<< (nI i &&& 31)) = nI (zsetN f (i + 1)) := by
  rw [zor_bit i hi _ (zset_N f i (by omega)).2]
  show _ = nI (zsetN f i + (if f i then 2 ^ i else 0))
  rw [if_pos h]
theorem zsN_f {f : Nat → Bool} {i : Nat} (h : f i = false) : nI (zsetN f i) ||| 0 = nI (zsetN f (i + 1)) := by
  rw [Int32.or_zero]
  show _ = nI (zsetN f i + (if f i then 2 ^ i else 0))
  rw [h]; rfl
/-- the numbers of a curve from the last one on, as the reference reckons them -/
def zcN (f : Nat → Int32) (x : Int32) (nn : Nat) : Nat → Int32
  | 0 => nI 0
  | n + 1 => zr97 (zcN f x nn n * x + f (nn - 1 - n))
theorem rmb_sub {inv h : Nat → Int32} {t g : Nat} (hg : g < 256) {m : Nat} (hm : m < 256) {k : Nat} (hk : k < 8) (h1 : (rmb inv h t g m).1.testBit k = true) : g.testBit k = true := by
  obtain ⟨l, i2⟩ := rmb_in (inv := inv) (h := h) (t := t) (g := g) m
  rcases i2 with ⟨e, -⟩ | ⟨-, e, -⟩
  · rw [e, Nat.zero_testBit] at h1; cases h1
  · exact (rcd_sub hg (by omega) e).1 k hk h1
theorem nI_lem {a b : Nat} (ha : a < 2 ^ 20) (hb : b < 2 ^ 20) : nI a ≤ nI b - 1 ↔ ¬ b ≤ a := by
  rw [Int32.le_iff_toInt_le, Int32.toInt_sub, nI_toInt (by omega), nI_toInt (by omega), show (1 : Int32).toInt = 1 from rfl, show ((b : Int) - 1).bmod (2 ^ 32) = (b : Int) - 1 from Int.bmod_eq_of_le (by omega) (by omega)]
  omega
/-- the zones of a set are few -/
theorem zzo_lt {set : Int32} {zo : Nat → Int32} : ∀ n, (∀ k, k < n → ∃ z, z < 4 ∧ zo k = nI z) → ∃ q, q < 16 ∧ zzo set zo n = nI q
  | 0, _ => ⟨0, by decide, rfl⟩
  | n + 1, h => by
    obtain ⟨q, hq, e⟩ := zzo_lt n (fun k hk => h k (by omega))
    obtain ⟨z, hz, ez⟩ := h n (by omega)
    have key : ∀ q, q < 16 → ∀ z, z < 4 → ∃ p, p < 16 ∧ nI q ||| (1 <<< (nI z &&& 31)) = nI p := fun q hq z hz => by
      have k2 : ∀ q, q < 16 → ∀ z, z < 4 → nI q ||| (1 <<< (nI z &&& 31)) = nI (q ||| 2 ^ z) ∧ q ||| 2 ^ z < 16 := by decide +kernel
      exact ⟨_, (k2 q hq z hz).2, (k2 q hq z hz).1⟩
    unfold zzo
    split
    · rw [e, ez]; exact key q hq z hz
    · exact ⟨q, hq, e⟩

theorem d_Mo_draw_0 : decode c_Mo_draw 0 = .ok (.aload_n 0, 1) := by decide +kernel
theorem d_Mo_draw_1 : decode c_Mo_draw 1 = .ok (.bipush 77, 2) := by decide +kernel
theorem d_Mo_draw_3 : decode c_Mo_draw 3 = .ok (.aload_n 0, 1) := by decide +kernel
theorem d_Mo_draw_4 : decode c_Mo_draw 4 = .ok (.getfield 7, 3) := by decide +kernel
theorem d_Mo_draw_7 : decode c_Mo_draw 7 = .ok (.imul, 1) := by decide +kernel
theorem d_Mo_draw_8 : decode c_Mo_draw 8 = .ok (.bipush 31, 2) := by decide +kernel
theorem d_Mo_draw_10 : decode c_Mo_draw 10 = .ok (.iadd, 1) := by decide +kernel
theorem d_Mo_draw_11 : decode c_Mo_draw 11 = .ok (.sipush 256, 3) := by decide +kernel
theorem d_Mo_draw_14 : decode c_Mo_draw 14 = .ok (.irem, 1) := by decide +kernel
theorem d_Mo_draw_15 : decode c_Mo_draw 15 = .ok (.putfield 7, 3) := by decide +kernel
theorem d_Mo_draw_18 : decode c_Mo_draw 18 = .ok (.aload_n 0, 1) := by decide +kernel
theorem d_Mo_draw_19 : decode c_Mo_draw 19 = .ok (.getfield 7, 3) := by decide +kernel
theorem d_Mo_draw_22 : decode c_Mo_draw 22 = .ok (.bipush 97, 2) := by decide +kernel
theorem d_Mo_draw_24 : decode c_Mo_draw 24 = .ok (.imul, 1) := by decide +kernel
theorem d_Mo_draw_25 : decode c_Mo_draw 25 = .ok (.sipush 256, 3) := by decide +kernel
theorem d_Mo_draw_28 : decode c_Mo_draw 28 = .ok (.idiv, 1) := by decide +kernel
theorem d_Mo_draw_29 : decode c_Mo_draw 29 = .ok (.ireturn, 1) := by decide +kernel
set_option maxHeartbeats 4000000 in
set_option maxRecDepth 100000 in
theorem m_Mo_drawE {g0 : State} {d : zD} {l : Launch} {a0 : Array Value} (hs0 : zS0 d a0 g0) (hst : l.stackTraces = false) {G : zG} {B : Nat → Nat} {V : Nat → Nat → Int32} {nk ns ne ec : Nat} (hM : zM d B V nk ns ne ec G) : zMet g0 d l y_Mo_draw c_Mo_draw 1 ((Option.some Jvm.ClassFile.FieldType.int)) 1 0 0 [.ref (B 0)] (G) (fun r G1 => r = some (.int (zdr (zlk (V 0 1)))) ∧ zM d B (rset V 0 (zm6 (V 0 0) (zlk (V 0 1)) (V 0 2) (V 0 3) (V 0 4) (V 0 5))) nk ns ne ec G1 ∧ mFr B nk ns ne G G1) (zNo) := by
  have hnk : nk ≤ 8 := hM.2.1
  have hns : ns ≤ 6 := hM.2.2.1
  have hne : ne ≤ 64 := hM.2.2.2.1
  have hp2 : 2 ^ nk ≤ 256 := Nat.pow_le_pow_right (n := 2) (by decide) hnk
  refine z_entry hs0 hst (by decide) (Nat.le_of_ble_eq_true rfl) (fun p e s m args below meth c => ?_)
  refine z_aload_n 0 d_Mo_draw_0 rfl rfl ?_
  refine z_bipush (v := 77) d_Mo_draw_1 (by decide) ?_
  refine z_aload_n 0 d_Mo_draw_3 rfl rfl ?_
  refine z_get zc_Mo 1 (by decide) qF_Mo_7 hM.mo rfl d_Mo_draw_4 ?_
  refine z_imul d_Mo_draw_7 ?_
  refine z_bipush (v := 31) d_Mo_draw_8 (by decide) ?_
  refine z_iadd d_Mo_draw_10 ?_
  refine z_sipush (v := 256) d_Mo_draw_11 (by decide) ?_
  refine z_irem d_Mo_draw_14 (by decide) ?_
  refine z_topv (v := zlk (V 0 1)) rfl ?_
  refine z_put zc_Mo 1 (by decide) qF_Mo_7 hM.mo rfl rfl rfl (Nat.le_of_ble_eq_true rfl) d_Mo_draw_15 ?_
  obtain ⟨hM1, hF1⟩ := hM.put0 (V 0 0) (zlk (V 0 1)) (V 0 2) (V 0 3) (V 0 4) (V 0 5)
  refine z_aload_n 0 d_Mo_draw_18 rfl rfl ?_
  refine z_get zc_Mo 1 (by decide) qF_Mo_7 hM1.mo rfl d_Mo_draw_19 ?_
  refine z_bipush (v := 97) d_Mo_draw_22 (by decide) ?_
  refine z_imul d_Mo_draw_24 ?_
  refine z_sipush (v := 256) d_Mo_draw_25 (by decide) ?_
  refine z_idiv d_Mo_draw_28 (by decide) ?_
  exact z_iret rfl (⟨rfl, hM1, hF1⟩) (by first | decide | omega) (by first | decide | omega) d_Mo_draw_29
set_option maxHeartbeats 4000000 in
set_option maxRecDepth 100000 in
theorem m_Mo_atE {g0 : State} {d : zD} {l : Launch} {a0 : Array Value} (hs0 : zS0 d a0 g0) (hst : l.stackTraces = false) {G : zG} {a nn : Nat} {f : Nat → Int32} (hG_a : G a = some (zI d nn f)) (hn : nn < 2 ^ 20) (x : Int32) : zMet g0 d l y_Mo_at c_Mo_at 4 ((Option.some Jvm.ClassFile.FieldType.int)) 1 0 0 [.ref a, .int x] (G) (zEq (some (.int (zcN f x nn nn))) G) (zNo) := by
  refine z_entry hs0 hst (by decide) (Nat.le_of_ble_eq_true rfl) (fun p e s m args below meth c => ?_)
  refine z_iconst (v := (nI 0)) d_Mo_at_0 (by decide) ?_
  refine z_istore_n (L' := [(2, _), (0, _), (1, _)]) d_Mo_at_1 rfl (by decide) rfl ?_
  refine z_aload_n 1 d_Mo_at_2 rfl rfl ?_
  refine z_alenI hG_a d_Mo_at_3 ?_
  refine z_iconst (v := (nI 1)) d_Mo_at_4 (by decide) ?_
  refine z_isub d_Mo_at_5 ?_
  refine z_istore_n (L' := [(3, _), (2, _), (0, _), (1, _)]) d_Mo_at_6 rfl (by decide) rfl ?_
  have key_7 : ∀ (n : Nat) (i : Nat), nn + 1 - i < n → (i ≤ nn) → Z g0 d y_Mo_at c_Mo_at 4 ((Option.some Jvm.ClassFile.FieldType.int)) [] p l e (zR 1 0 0) s m args below meth c (vx_MQ below (zQc g0 d (zEq (some (.int (zcN f x nn nn))) G)) (zXc g0 d (zNo)) args s 0 0 (zA g0)) 0 0 (G) [(3, .int (nI (nn - i) - 1)), (2, .int (zcN f x nn i)), (0, .ref a), (1, .int x)] [] 7 := by
    intro n
    induction n with
    | zero => intro i h0; exact absurd h0 (Nat.not_lt_zero _)
    | succ n ih_7 =>
      intro i hm_7 hi
      refine z_iload_n 0 d_Mo_at_7 rfl rfl ?_
      refine z_if_lt 28 d_Mo_at_8 (by decide) (fun c_8 => ?_) (fun c_8 => ?_)
      · skip
        obtain rfl : i = nn := by
          by_cases h : i = nn
          · exact h
          · exact absurd c_8 (by rw [nI_s1 (by omega) (by omega)]; exact nI_pos (by omega))
        refine z_iload_n 1 d_Mo_at_28 rfl rfl ?_
        exact z_iret rfl (⟨rfl, rfl⟩) (by first | decide | omega) (by first | decide | omega) d_Mo_at_29
      · skip
        have hi1 : i < nn := by
          by_cases h : i = nn
          · subst h; rw [Nat.sub_self] at c_8; exact absurd (by decide) c_8
          · omega
        have e1 : nI (nn - i) - 1 = nI (nn - 1 - i) := (nI_s1 (by omega) (by omega)).trans (congrArg nI (by omega))
        rw [e1]
        refine z_iload_n 1 d_Mo_at_11 rfl rfl ?_
        refine z_iload_n 3 d_Mo_at_12 rfl rfl ?_
        refine z_imul d_Mo_at_13 ?_
        refine z_aload_n 2 d_Mo_at_14 rfl rfl ?_
        refine z_iload_n 0 d_Mo_at_15 rfl rfl ?_
        refine z_ialdN hG_a (show nn - 1 - i < nn by omega) (by omega) d_Mo_at_16 ?_
        refine z_iadd d_Mo_at_17 ?_
        refine z_bipush (v := 97) d_Mo_at_18 (by decide) ?_
        refine z_irem d_Mo_at_20 (by decide) ?_
        refine z_topv (v := zcN f x nn (i + 1)) rfl ?_
        refine z_istore_n (L' := [(2, _), (3, _), (0, _), (1, _)]) d_Mo_at_21 rfl (by decide) rfl ?_
        refine z_iinc (v := nI (nn - (i + 1)) - 1) (L' := [(3, _), (2, _), (0, _), (1, _)]) 1 d_Mo_at_22 rfl (by rw [z_m1, show nn - 1 - i = nn - (i + 1) by omega]) (by decide) rfl ?_
        refine z_goto 7 d_Mo_at_25 (by decide) ?_
        exact ih_7 (i + 1) (by omega) (by omega)
  exact key_7 (nn + 2) 0 (by omega) (by omega)
set_option maxHeartbeats 4000000 in
set_option maxRecDepth 100000 in
theorem m_Mo_alongE {g0 : State} {d : zD} {l : Launch} {a0 : Array Value} (hs0 : zS0 d a0 g0) (hst : l.stackTraces = false) {G : zG} {B : Nat → Nat} {V : Nat → Nat → Int32} {nk ns ne ec : Nat} (hM : zM d B V nk ns ne ec G) {si : Nat} (hsi : si < ns) {q : Nat} (hq : q < 2 ^ nk) {x : Nat} (hx : x < 97) (hsm : zSm (mgv V si) q) {iv : Nat → Nat} (hiv : zIv (V 7) iv) : zMet g0 d l y_Mo_along c_Mo_along 6 ((Option.some Jvm.ClassFile.FieldType.int)) 12 0 0 [.ref (B 0), .ref (B (200 + si)), .int (nI q), .int (nI x)] (G) (mTs d B nk ns ne ec V G (fun r => r = some (.int (zth (V 7) (gvs (mgv V si)) (nI (2 * q)) (nI x))))) (zNo) := by
  have hnk : nk ≤ 8 := hM.2.1
  have hns : ns ≤ 6 := hM.2.2.1
  have hne : ne ≤ 64 := hM.2.2.2.1
  have hp2 : 2 ^ nk ≤ 256 := Nat.pow_le_pow_right (n := 2) (by decide) hnk
  refine z_entry hs0 hst (by decide) (Nat.le_of_ble_eq_true rfl) (fun p e s m args below meth c => ?_)
  refine z_iconst (v := (nI 0)) d_Mo_along_0 (by decide) ?_
  refine z_istore (L' := [(4, _), (0, _), (1, _), (2, _), (3, _)]) d_Mo_along_1 (by decide) rfl ?_
  refine z_iconst (v := (nI 0)) d_Mo_along_3 (by decide) ?_
  refine z_istore (L' := [(5, _), (4, _), (0, _), (1, _), (2, _), (3, _)]) d_Mo_along_4 (by decide) rfl ?_
  have key_6 : ∀ (n : Nat) (i : Nat) (G2 : zG) (V2 : Nat → Nat → Int32), 8 - i < n → (i ≤ 8) → (zM d B V2 nk ns ne ec G2) → (zAl V V2 si q i) → (mFr B nk ns ne G G2) → Z g0 d y_Mo_along c_Mo_along 6 ((Option.some Jvm.ClassFile.FieldType.int)) [] p l e (zR 12 0 0) s m args below meth c (vx_MQ below (zQc g0 d (mTs d B nk ns ne ec V G (fun r => r = some (.int (zth (V 7) (gvs (mgv V si)) (nI (2 * q)) (nI x)))))) (zXc g0 d (zNo)) args s 0 0 (zA g0)) 0 0 (G2) [(5, .int (nI i)), (4, .int (nI (zcnt (fun k => q.testBit k) i))), (0, .ref (B 0)), (1, .ref (B (200 + si))), (2, .int (nI q)), (3, .int (nI x))] [] 6 := by
    intro n
    induction n with
    | zero => intro i G2 V2 h0; exact absurd h0 (Nat.not_lt_zero _)
    | succ n ih_6 =>
      intro i G2 V2 hm_6 hi hM2 hK2 hF2
      have hct : zcnt (fun k => q.testBit k) i ≤ i := zcnt_n i
      refine z_iload 0 d_Mo_along_6 rfl ?_
      refine z_bipush (v := 8) d_Mo_along_8 (by decide) ?_
      refine z_icmp_ge 59 d_Mo_along_10 (by decide) (fun c_10 => ?_) (fun c_10 => ?_)
      · skip
        obtain rfl : i = 8 := by
          have := (nI_leI (a := 8) (b := i) (by decide) (by omega)).mp c_10
          omega
        refine z_aload_n 2 d_Mo_along_59 rfl rfl ?_
        refine z_aload_n 2 d_Mo_along_60 rfl rfl ?_
        refine z_get zc_Mo 10 (by decide) qF_Mo_30 hM2.mo rfl d_Mo_along_61 ?_
        refine z_aload_n 2 d_Mo_along_64 rfl rfl ?_
        refine z_get zc_Mo 11 (by decide) qF_Mo_33 hM2.mo rfl d_Mo_along_65 ?_
        refine z_iload 1 d_Mo_along_68 rfl ?_
        refine z_iload_n 5 d_Mo_along_70 rfl rfl ?_
        refine z_callV0 (m_Mo_through hs0 hst hM2 hM2.pt hM2.nb (show zcnt (fun k => q.testBit k) 8 ≤ 8 from zcnt_n 8) (by decide) (nI x)) ym_Mo_through qM_Mo_84 qI_Mo_through qV_Mo_Mo_through zc_Mo hM2.mo d_Mo_along_71 rfl (Nat.le_of_ble_eq_true rfl) ⟨Nat.zero_le _, Nat.zero_le _⟩ ⟨Nat.le_of_ble_eq_true rfl, Nat.le_of_ble_eq_true rfl⟩ ?_
        exact z_iret rfl (⟨by rw [hK2.1.r (r := 7) (by decide) (by decide), zal_th hiv hsm (by omega) hx (fun n hn h1 => hK2.2 n hn h1)], V2, hM2, hK2.1, hF2⟩) (by first | decide | omega) (by first | decide | omega) d_Mo_along_74
      · skip
        have hi6 : i < 8 := Nat.lt_of_not_le fun q => c_10 (nI_le (a := 8) (b := i) q (by omega))
        refine z_iload_n 4 d_Mo_along_13 rfl rfl ?_
        refine z_iload 0 d_Mo_along_14 rfl ?_
        refine z_callS0 (m_Mo_has hs0 hst (nI q) (nI i)) ym_Mo_has qM_Mo_76 qS_Mo_has d_Mo_along_16 rfl (Nat.le_of_ble_eq_true rfl) ⟨Nat.zero_le _, Nat.zero_le _⟩ ⟨Nat.le_of_ble_eq_true rfl, Nat.le_of_ble_eq_true rfl⟩ ?_
        refine z_if_ne 25 d_Mo_along_19 (by decide) (fun c_19 => ?_) (fun c_19 => ?_)
        · skip
          have hk6 : i < nk := zbt_lt hq (by omega) hi6 c_19
          have hb3 : q.testBit i = true := (tb_zbt q (by omega) i (by omega)).symm.trans ((zb_n0 _).mp c_19)
          refine z_aload_n 2 d_Mo_along_25 rfl rfl ?_
          refine z_get zc_Mo 10 (by decide) qF_Mo_30 hM2.mo rfl d_Mo_along_26 ?_
          refine z_iload 1 d_Mo_along_29 rfl ?_
          refine z_iload 0 d_Mo_along_31 rfl ?_
          refine z_iconst (v := 1) d_Mo_along_33 (by decide) ?_
          refine z_iadd d_Mo_along_34 ?_
          refine z_iastN hM2.pt (show zcnt (fun k => q.testBit k) i < 8 by omega) (by decide) d_Mo_along_35 ?_
          obtain ⟨hM3, hF3⟩ := hM2.putPE (upd (V2 8) (zcnt (fun k => q.testBit k) i) (nI i + 1))
          refine z_aload_n 2 d_Mo_along_36 rfl rfl ?_
          refine z_get zc_Mo 11 (by decide) qF_Mo_33 hM3.mo rfl d_Mo_along_37 ?_
          refine z_iload 1 d_Mo_along_40 rfl ?_
          refine z_aload_n 2 d_Mo_along_42 rfl rfl ?_
          refine z_aload_n 3 d_Mo_along_43 rfl rfl ?_
          refine z_iload 0 d_Mo_along_44 rfl ?_
          refine z_callV0 (m_Mo_gives hs0 hst hM3 hsi hk6) ym_Mo_gives qM_Mo_80 qI_Mo_gives qV_Mo_Mo_gives zc_Mo hM3.mo d_Mo_along_46 rfl (Nat.le_of_ble_eq_true rfl) ⟨Nat.zero_le _, Nat.zero_le _⟩ ⟨Nat.le_of_ble_eq_true rfl, Nat.le_of_ble_eq_true rfl⟩ ?_
          refine z_topv (v := mgv V2 si i) (by unfold mgv; rw [rset_n (show 300 + si ≠ 8 by omega), rset_n (show 100 + i ≠ 8 by omega)]) ?_
          refine z_iastN hM3.nb (show zcnt (fun k => q.testBit k) i < 8 by omega) (by decide) d_Mo_along_49 ?_
          obtain ⟨hM4, hF4⟩ := hM3.putNE (upd (V2 9) (zcnt (fun k => q.testBit k) i) (mgv V2 si i))
          refine z_iinc (v := nI (zcnt (fun k => q.testBit k) (i + 1))) (L' := [(4, _), (5, _), (0, _), (1, _), (2, _), (3, _)]) 1 d_Mo_along_50 rfl (by rw [zcnt_step (f := (fun k => q.testBit k)) hb3]; exact nI_1 _) (by decide) rfl ?_
          refine z_iinc (v := nI (i + 1)) (L' := [(5, _), (4, _), (0, _), (1, _), (2, _), (3, _)]) 1 d_Mo_along_53 rfl (nI_1 i) (by decide) rfl ?_
          refine z_goto 6 d_Mo_along_56 (by decide) ?_
          first
            | exact ih_6 (i + 1) _ _ (by omega) (by omega) hM4 (hK2.add hb3) ((hF2.tr hF3).tr hF4)
            | exact ih_6 (i + 1) _ _ (by omega) (by omega) hM2 (hK2.skip hb2) hF2
        · skip
          have hb2 : q.testBit i = false := (tb_zbt q (by omega) i (by omega)).symm.trans ((zb_0 _).mp c_19)
          rw [← zcnt_skip (f := (fun k => q.testBit k)) hb2]
          refine z_goto 53 d_Mo_along_22 (by decide) ?_
          refine z_iinc (v := nI (i + 1)) (L' := [(5, _), (4, _), (0, _), (1, _), (2, _), (3, _)]) 0 d_Mo_along_53 rfl (nI_1 i) (by decide) rfl ?_
          refine z_goto 6 d_Mo_along_56 (by decide) ?_
          first
            | exact ih_6 (i + 1) _ _ (by omega) (by omega) hM4 (hK2.add hb3) ((hF2.tr hF3).tr hF4)
            | exact ih_6 (i + 1) _ _ (by omega) (by omega) hM2 (hK2.skip hb2) hF2
  exact key_6 9 0 _ _ (by omega) (by omega) hM zAl.z zFr.rf
set_option maxHeartbeats 4000000 in
set_option maxRecDepth 100000 in
theorem m_Mo_agreeingE {g0 : State} {d : zD} {l : Launch} {a0 : Array Value} (hs0 : zS0 d a0 g0) (hst : l.stackTraces = false) {G : zG} {B : Nat → Nat} {V : Nat → Nat → Int32} {nk ns ne ec : Nat} (hM : zM d B V nk ns ne ec G) {si : Nat} (hsi : si < ns) {g : Nat} (hg : g < 2 ^ nk) {q : Nat} (hq : q < 2 ^ nk) (hsm : zSm (mgv V si) q) {iv : Nat → Nat} (hiv : zIv (V 7) iv) : zMet g0 d l y_Mo_agreeing c_Mo_agreeing 6 ((Option.some Jvm.ClassFile.FieldType.int)) 13 0 0 [.ref (B 0), .ref (B (200 + si)), .int (nI g), .int (nI q)] (G) (mTs d B nk ns ne ec V G (fun r => r = some (.int (nI (rag (V 7) (mgv V si) g q))))) (zNo) := by
  have hnk : nk ≤ 8 := hM.2.1
  have hns : ns ≤ 6 := hM.2.2.1
  have hne : ne ≤ 64 := hM.2.2.2.1
  have hp2 : 2 ^ nk ≤ 256 := Nat.pow_le_pow_right (n := 2) (by decide) hnk
  refine z_entry hs0 hst (by decide) (Nat.le_of_ble_eq_true rfl) (fun p e s m args below meth c => ?_)
  refine z_iconst (v := (nI 0)) d_Mo_agreeing_0 (by decide) ?_
  refine z_istore (L' := [(4, _), (0, _), (1, _), (2, _), (3, _)]) d_Mo_agreeing_1 (by decide) rfl ?_
  refine z_iconst (v := (nI 0)) d_Mo_agreeing_3 (by decide) ?_
  refine z_istore (L' := [(5, _), (4, _), (0, _), (1, _), (2, _), (3, _)]) d_Mo_agreeing_4 (by decide) rfl ?_
  have key_6 : ∀ (n : Nat) (i : Nat) (G2 : zG) (V2 : Nat → Nat → Int32), 8 - i < n → (i ≤ 8) → (zM d B V2 nk ns ne ec G2) → (zKp msc V V2) → (mFr B nk ns ne G G2) → Z g0 d y_Mo_agreeing c_Mo_agreeing 6 ((Option.some Jvm.ClassFile.FieldType.int)) [] p l e (zR 13 0 0) s m args below meth c (vx_MQ below (zQc g0 d (mTs d B nk ns ne ec V G (fun r => r = some (.int (nI (rag (V 7) (mgv V si) g q)))))) (zXc g0 d (zNo)) args s 0 0 (zA g0)) 0 0 (G2) [(5, .int (nI i)), (4, .int (nI (zsetN (fun k => g.testBit k && decide (zth (V 7) (gvs (mgv V si)) (nI (2 * q)) (nI (k + 1)) = mgv V si k)) i))), (0, .ref (B 0)), (1, .ref (B (200 + si))), (2, .int (nI g)), (3, .int (nI q))] [] 6 := by
    intro n
    induction n with
    | zero => intro i G2 V2 h0; exact absurd h0 (Nat.not_lt_zero _)
    | succ n ih_6 =>
      intro i G2 V2 hm_6 hi hM2 hK2 hF2
      refine z_iload 0 d_Mo_agreeing_6 rfl ?_
      refine z_bipush (v := 8) d_Mo_agreeing_8 (by decide) ?_
      refine z_icmp_ge 61 d_Mo_agreeing_10 (by decide) (fun c_10 => ?_) (fun c_10 => ?_)
      · skip
        obtain rfl : i = 8 := by
          have := (nI_leI (a := 8) (b := i) (by decide) (by omega)).mp c_10
          omega
        refine z_iload 1 d_Mo_agreeing_61 rfl ?_
        exact z_iret rfl (⟨rfl, V2, hM2, hK2, hF2⟩) (by first | decide | omega) (by first | decide | omega) d_Mo_agreeing_63
      · skip
        have hi6 : i < 8 := Nat.lt_of_not_le fun q => c_10 (nI_le (a := 8) (b := i) q (by omega))
        refine z_iload 1 d_Mo_agreeing_13 rfl ?_
        refine z_iload_n 4 d_Mo_agreeing_15 rfl rfl ?_
        refine z_iload 0 d_Mo_agreeing_16 rfl ?_
        refine z_callS0 (m_Mo_has hs0 hst (nI g) (nI i)) ym_Mo_has qM_Mo_76 qS_Mo_has d_Mo_agreeing_18 rfl (Nat.le_of_ble_eq_true rfl) ⟨Nat.zero_le _, Nat.zero_le _⟩ ⟨Nat.le_of_ble_eq_true rfl, Nat.le_of_ble_eq_true rfl⟩ ?_
        refine z_if_eq 51 d_Mo_agreeing_21 (by decide) (fun c_21 => ?_) (fun c_21 => ?_)
        · skip
          have hf2 : (fun k => g.testBit k && decide (zth (V 7) (gvs (mgv V si)) (nI (2 * q)) (nI (k + 1)) = mgv V si k)) i = false := by
            show (g.testBit i && _) = false
            rw [show g.testBit i = false from (tb_zbt g (by omega) i (by omega)).symm.trans ((zb_0 _).mp c_21), Bool.false_and]
          refine z_iconst (v := 0) d_Mo_agreeing_51 (by decide) ?_
          refine z_ior d_Mo_agreeing_52 ?_
          first
            | refine z_topv (zsN_t (f := (fun k => g.testBit k && decide (zth (V 7) (gvs (mgv V si)) (nI (2 * q)) (nI (k + 1)) = mgv V si k))) (by omega) hf3) ?_
            | refine z_topv (zsN_f (f := (fun k => g.testBit k && decide (zth (V 7) (gvs (mgv V si)) (nI (2 * q)) (nI (k + 1)) = mgv V si k))) hf2) ?_
          refine z_istore (L' := [(4, _), (5, _), (0, _), (1, _), (2, _), (3, _)]) d_Mo_agreeing_53 (by decide) rfl ?_
          refine z_iinc (v := nI (i + 1)) (L' := [(5, _), (4, _), (0, _), (1, _), (2, _), (3, _)]) 1 d_Mo_agreeing_55 rfl (nI_1 i) (by decide) rfl ?_
          refine z_goto 6 d_Mo_agreeing_58 (by decide) ?_
          first
            | exact ih_6 (i + 1) _ _ (by omega) (by omega) hM3 (hK2.tr hK3) (hF2.tr hF3)
            | exact ih_6 (i + 1) _ _ (by omega) (by omega) hM2 hK2 hF2
        · skip
          have hk6 : i < nk := zbt_lt hg (by omega) hi6 c_21
          have hg21 : g.testBit i = true := (tb_zbt g (by omega) i (by omega)).symm.trans ((zb_n0 _).mp c_21)
          refine z_aload_n 2 d_Mo_agreeing_24 rfl rfl ?_
          refine z_aload_n 3 d_Mo_agreeing_25 rfl rfl ?_
          refine z_iload_n 5 d_Mo_agreeing_26 rfl rfl ?_
          refine z_iload 0 d_Mo_agreeing_27 rfl ?_
          refine z_iconst (v := 1) d_Mo_agreeing_29 (by decide) ?_
          refine z_iadd d_Mo_agreeing_30 ?_
          refine z_topv (nI_1 i) ?_
          refine z_callVp0 ((m_Mo_alongE hs0 hst hM2 hsi hq (x := i + 1) (by omega) (by rw [hK2.mg]; exact hsm) (by rw [hK2.r (r := 7) (by decide) (by decide)]; exact hiv))) ym_Mo_along qM_Mo_88 qI_Mo_along qV_Mo_Mo_along zc_Mo hM2.mo d_Mo_agreeing_31 rfl (Nat.le_of_ble_eq_true rfl) ⟨Nat.zero_le _, Nat.zero_le _⟩ ⟨Nat.le_of_ble_eq_true rfl, Nat.le_of_ble_eq_true rfl⟩ (fun r_31 G_31 hp_31 => ?_)
          obtain ⟨hr_31, V3, hM3, hK3, hF3⟩ := hp_31
          rw [hK2.mg, hK2.r (r := 7) (by decide) (by decide)] at hr_31
          obtain rfl : r_31 = _ := hr_31
          have e9 : zr97 (V3 (300 + si) i + V3 (100 + i) 3) = mgv V si i := congrFun ((hK3.mg si).trans (hK2.mg si)) i
          refine z_aload_n 2 d_Mo_agreeing_34 rfl rfl ?_
          refine z_aload_n 3 d_Mo_agreeing_35 rfl rfl ?_
          refine z_iload 0 d_Mo_agreeing_36 rfl ?_
          refine z_callV0 (m_Mo_gives hs0 hst hM3 hsi hk6) ym_Mo_gives qM_Mo_80 qI_Mo_gives qV_Mo_Mo_gives zc_Mo hM3.mo d_Mo_agreeing_38 rfl (Nat.le_of_ble_eq_true rfl) ⟨Nat.zero_le _, Nat.zero_le _⟩ ⟨Nat.le_of_ble_eq_true rfl, Nat.le_of_ble_eq_true rfl⟩ ?_
          refine z_icmp_ne 51 d_Mo_agreeing_41 (by decide) (fun c_41 => ?_) (fun c_41 => ?_)
          · skip
            have hf2 : (fun k => g.testBit k && decide (zth (V 7) (gvs (mgv V si)) (nI (2 * q)) (nI (k + 1)) = mgv V si k)) i = false := by
              show (g.testBit i && decide (zth (V 7) (gvs (mgv V si)) (nI (2 * q)) (nI (i + 1)) = mgv V si i)) = false
              rw [decide_eq_false (p := zth (V 7) (gvs (mgv V si)) (nI (2 * q)) (nI (i + 1)) = mgv V si i) (by rw [← e9]; exact c_41), Bool.and_false]
            refine z_iconst (v := 0) d_Mo_agreeing_51 (by decide) ?_
            refine z_ior d_Mo_agreeing_52 ?_
            first
              | refine z_topv (zsN_t (f := (fun k => g.testBit k && decide (zth (V 7) (gvs (mgv V si)) (nI (2 * q)) (nI (k + 1)) = mgv V si k))) (by omega) hf3) ?_
              | refine z_topv (zsN_f (f := (fun k => g.testBit k && decide (zth (V 7) (gvs (mgv V si)) (nI (2 * q)) (nI (k + 1)) = mgv V si k))) hf2) ?_
            refine z_istore (L' := [(4, _), (5, _), (0, _), (1, _), (2, _), (3, _)]) d_Mo_agreeing_53 (by decide) rfl ?_
            refine z_iinc (v := nI (i + 1)) (L' := [(5, _), (4, _), (0, _), (1, _), (2, _), (3, _)]) 1 d_Mo_agreeing_55 rfl (nI_1 i) (by decide) rfl ?_
            refine z_goto 6 d_Mo_agreeing_58 (by decide) ?_
            first
              | exact ih_6 (i + 1) _ _ (by omega) (by omega) hM3 (hK2.tr hK3) (hF2.tr hF3)
              | exact ih_6 (i + 1) _ _ (by omega) (by omega) hM2 hK2 hF2
          · skip
            have hf3 : (fun k => g.testBit k && decide (zth (V 7) (gvs (mgv V si)) (nI (2 * q)) (nI (k + 1)) = mgv V si k)) i = true := by
              show (g.testBit i && decide (zth (V 7) (gvs (mgv V si)) (nI (2 * q)) (nI (i + 1)) = mgv V si i)) = true
              rw [hg21, decide_eq_true (p := zth (V 7) (gvs (mgv V si)) (nI (2 * q)) (nI (i + 1)) = mgv V si i) (by rw [← e9]; exact c_41)]
              rfl
            refine z_iconst (v := 1) d_Mo_agreeing_44 (by decide) ?_
            refine z_iload 0 d_Mo_agreeing_45 rfl ?_
            refine z_ishl d_Mo_agreeing_47 ?_
            refine z_goto 52 d_Mo_agreeing_48 (by decide) ?_
            refine z_ior d_Mo_agreeing_52 ?_
            first
              | refine z_topv (zsN_t (f := (fun k => g.testBit k && decide (zth (V 7) (gvs (mgv V si)) (nI (2 * q)) (nI (k + 1)) = mgv V si k))) (by omega) hf3) ?_
              | refine z_topv (zsN_f (f := (fun k => g.testBit k && decide (zth (V 7) (gvs (mgv V si)) (nI (2 * q)) (nI (k + 1)) = mgv V si k))) hf2) ?_
            refine z_istore (L' := [(4, _), (5, _), (0, _), (1, _), (2, _), (3, _)]) d_Mo_agreeing_53 (by decide) rfl ?_
            refine z_iinc (v := nI (i + 1)) (L' := [(5, _), (4, _), (0, _), (1, _), (2, _), (3, _)]) 1 d_Mo_agreeing_55 rfl (nI_1 i) (by decide) rfl ?_
            refine z_goto 6 d_Mo_agreeing_58 (by decide) ?_
            first
              | exact ih_6 (i + 1) _ _ (by omega) (by omega) hM3 (hK2.tr hK3) (hF2.tr hF3)
              | exact ih_6 (i + 1) _ _ (by omega) (by omega) hM2 hK2 hF2
  exact key_6 9 0 _ _ (by omega) (by omega) hM zKp.rf zFr.rf
set_option maxHeartbeats 4000000 in
set_option maxRecDepth 100000 in
theorem m_Mo_bestE {g0 : State} {d : zD} {l : Launch} {a0 : Array Value} (hs0 : zS0 d a0 g0) (hst : l.stackTraces = false) {G : zG} {B : Nat → Nat} {V : Nat → Nat → Int32} {nk ns ne ec : Nat} (hM : zM d B V nk ns ne ec G) {si : Nat} (hsi : si < ns) {g : Nat} (hg : g < 2 ^ nk) (hsm : zSm (mgv V si) g) {iv : Nat → Nat} (hiv : zIv (V 7) iv) {t : Nat} (ht : V (200 + si) 0 = nI t) (ht4 : t ≤ 4) : zMet g0 d l y_Mo_best c_Mo_best 7 ((Option.some Jvm.ClassFile.FieldType.int)) 14 0 0 [.ref (B 0), .ref (B (200 + si)), .int (nI g)] (G) (mTs d B nk ns ne ec V G (fun r => r = some (.int (nI (rmb (V 7) (mgv V si) t g g).1)))) (zNo) := by
  have hnk : nk ≤ 8 := hM.2.1
  have hns : ns ≤ 6 := hM.2.2.1
  have hne : ne ≤ 64 := hM.2.2.2.1
  have hp2 : 2 ^ nk ≤ 256 := Nat.pow_le_pow_right (n := 2) (by decide) hnk
  refine z_entry hs0 hst (by decide) (Nat.le_of_ble_eq_true rfl) (fun p e s m args below meth c => ?_)
  refine z_iconst (v := (nI 0)) d_Mo_best_0 (by decide) ?_
  refine z_istore_n (L' := [(3, _), (0, _), (1, _), (2, _)]) d_Mo_best_1 rfl (by decide) rfl ?_
  refine z_iconst (v := (nI 0 - 1)) d_Mo_best_2 (by decide) ?_
  refine z_istore (L' := [(4, _), (3, _), (0, _), (1, _), (2, _)]) d_Mo_best_3 (by decide) rfl ?_
  refine z_iconst (v := (nI (0 + 1))) d_Mo_best_5 (by decide) ?_
  refine z_istore (L' := [(5, _), (4, _), (3, _), (0, _), (1, _), (2, _)]) d_Mo_best_6 (by decide) rfl ?_
  have key_8 : ∀ (n : Nat) (i : Nat) (G2 : zG) (V2 : Nat → Nat → Int32), g + 1 - i < n → (i ≤ g) → (zM d B V2 nk ns ne ec G2) → (zKp msc V V2) → (mFr B nk ns ne G G2) → Z g0 d y_Mo_best c_Mo_best 7 ((Option.some Jvm.ClassFile.FieldType.int)) [] p l e (zR 14 0 0) s m args below meth c (vx_MQ below (zQc g0 d (mTs d B nk ns ne ec V G (fun r => r = some (.int (nI (rmb (V 7) (mgv V si) t g g).1))))) (zXc g0 d (zNo)) args s 0 0 (zA g0)) 0 0 (G2) [(5, .int (nI (i + 1))), (4, .int (nI (rmb (V 7) (mgv V si) t g i).2 - 1)), (3, .int (nI (rmb (V 7) (mgv V si) t g i).1)), (0, .ref (B 0)), (1, .ref (B (200 + si))), (2, .int (nI g))] [] 8 := by
    intro n
    induction n with
    | zero => intro i G2 V2 h0; exact absurd h0 (Nat.not_lt_zero _)
    | succ n ih_8 =>
      intro i G2 V2 hm_8 hi hM2 hK2 hF2
      refine z_iload 0 d_Mo_best_8 rfl ?_
      refine z_iload_n 5 d_Mo_best_10 rfl rfl ?_
      refine z_icmp_gt 71 d_Mo_best_11 (by decide) (fun c_11 => ?_) (fun c_11 => ?_)
      · skip
        obtain rfl : i = g := by
          have := (nI_ltI (a := g) (b := i + 1) (by omega) (by omega)).mp c_11
          omega
        refine z_iload_n 2 d_Mo_best_71 rfl rfl ?_
        exact z_iret rfl (⟨rfl, V2, hM2, hK2, hF2⟩) (by first | decide | omega) (by first | decide | omega) d_Mo_best_72
      · skip
        have hi6 : i + 1 ≤ g := Nat.le_of_not_lt fun q => c_11 ((nI_ltI (by omega) (by omega)).mpr q)
        refine z_iload 0 d_Mo_best_14 rfl ?_
        refine z_iload_n 5 d_Mo_best_16 rfl rfl ?_
        refine z_iconst (v := (-1)) d_Mo_best_17 (by decide) ?_
        refine z_ixor d_Mo_best_18 ?_
        refine z_iand d_Mo_best_19 ?_
        refine z_if_ne 65 d_Mo_best_20 (by decide) (fun c_20 => ?_) (fun c_20 => ?_)
        · skip
          rw [rmb_f (inv := V 7) (h := mgv V si) (t := t) (g := g) (n := i) (Or.inl (by unfold rcd; rw [decide_eq_false c_20, Bool.false_and]))]
          refine z_iinc (v := nI ((i + 1) + 1)) (L' := [(5, _), (4, _), (3, _), (0, _), (1, _), (2, _)]) 0 d_Mo_best_65 rfl (nI_1 (i + 1)) (by decide) rfl ?_
          refine z_goto 8 d_Mo_best_68 (by decide) ?_
          first
            | (have hq := h55
               have hb := ih_8 (i + 1) _ _ (by omega) (by omega) hM3 (hK2.tr hK3) (hF2.tr hF3)
               rw [← rmb_t hc9 hq] at hb
               simp only [nI_pred] at hb
               exact hb)
            | exact ih_8 (i + 1) _ _ (by omega) (by omega) hM3 (hK2.tr hK3) (hF2.tr hF3)
            | exact ih_8 (i + 1) _ _ (by omega) (by omega) hM2 hK2 hF2
        · skip
          refine z_iload 0 d_Mo_best_23 rfl ?_
          refine z_callS0 ((m_Mo_size hs0 hst (nn := i + 1) (by omega))) ym_Mo_size qM_Mo_66 qS_Mo_size d_Mo_best_25 rfl (Nat.le_of_ble_eq_true rfl) ⟨Nat.zero_le _, Nat.zero_le _⟩ ⟨Nat.le_of_ble_eq_true rfl, Nat.le_of_ble_eq_true rfl⟩ ?_
          refine z_aload_n 4 d_Mo_best_28 rfl rfl ?_
          refine z_get zc_MS 0 (by decide) qF_Mo_69 (hM2.se hsi).1 rfl d_Mo_best_29 ?_
          refine z_icmp_eq 38 d_Mo_best_32 (by decide) (fun c_32 => ?_) (fun c_32 => ?_)
          · skip
            have e32 : zpop 9 (i + 1) = t := (nI_eq (by have := zpop_le (i + 1) (by omega); omega) (by omega)).mp (c_32.trans (by rw [hK2.r (r := 200 + si) (by omega) (by omega), ht]))
            have hc9 : rcd t g (i + 1) = true := by unfold rcd; rw [decide_eq_true c_20, decide_eq_true e32]; rfl
            obtain ⟨hs9, -⟩ := rcd_sub (by omega) (by omega) hc9
            refine z_aload_n 3 d_Mo_best_38 rfl rfl ?_
            refine z_aload_n 4 d_Mo_best_39 rfl rfl ?_
            refine z_iload_n 5 d_Mo_best_40 rfl rfl ?_
            refine z_iload 0 d_Mo_best_41 rfl ?_
            refine z_callVp0 ((m_Mo_agreeingE hs0 hst hM2 hsi hg (show i + 1 < 2 ^ nk by omega) (by rw [hK2.mg]; exact hsm.sub hs9) (by rw [hK2.r (r := 7) (by decide) (by decide)]; exact hiv))) ym_Mo_agreeing qM_Mo_72 qI_Mo_agreeing qV_Mo_Mo_agreeing zc_Mo hM2.mo d_Mo_best_43 rfl (Nat.le_of_ble_eq_true rfl) ⟨Nat.zero_le _, Nat.zero_le _⟩ ⟨Nat.le_of_ble_eq_true rfl, Nat.le_of_ble_eq_true rfl⟩ (fun r_43 G_43 hp_43 => ?_)
            obtain ⟨hr_43, V3, hM3, hK3, hF3⟩ := hp_43
            rw [hK2.mg, hK2.r (r := 7) (by decide) (by decide)] at hr_43
            obtain rfl : r_43 = _ := hr_43
            refine z_callS0 ((m_Mo_size hs0 hst (nn := rag (V 7) (mgv V si) g (i + 1)) (by have := rag_lt (inv := V 7) (h := mgv V si) (g := g) (q := i + 1); omega))) ym_Mo_size qM_Mo_66 qS_Mo_size d_Mo_best_46 rfl (Nat.le_of_ble_eq_true rfl) ⟨Nat.zero_le _, Nat.zero_le _⟩ ⟨Nat.le_of_ble_eq_true rfl, Nat.le_of_ble_eq_true rfl⟩ ?_
            refine z_istore (L' := [(6, _), (5, _), (4, _), (3, _), (0, _), (1, _), (2, _)]) d_Mo_best_49 (by decide) rfl ?_
            refine z_iload 0 d_Mo_best_51 rfl ?_
            refine z_iload 2 d_Mo_best_53 rfl ?_
            refine z_icmp_le 65 d_Mo_best_55 (by decide) (fun c_55 => ?_) (fun c_55 => ?_)
            · skip
              rw [rmb_f (inv := V 7) (h := mgv V si) (t := t) (g := g) (n := i) (Or.inr ((nI_lem (by have := zpop_le (rag (V 7) (mgv V si) g (i + 1)) (by have := rag_lt (inv := V 7) (h := mgv V si) (g := g) (q := i + 1); omega); omega) (by have := rmb_le (inv := V 7) (h := mgv V si) (t := t) (g := g) i; omega)).mp c_55))]
              refine z_iinc (v := nI ((i + 1) + 1)) (L' := [(5, _), (6, _), (4, _), (3, _), (0, _), (1, _), (2, _)]) 1 d_Mo_best_65 rfl (nI_1 (i + 1)) (by decide) rfl ?_
              refine z_goto 8 d_Mo_best_68 (by decide) ?_
              refine z_sub (L' := [(5, _), (4, _), (3, _), (0, _), (1, _), (2, _)]) [0, 2, 3, 4, 5, 6] rfl ?_
              first
                | (have hq := h55
                   have hb := ih_8 (i + 1) _ _ (by omega) (by omega) hM3 (hK2.tr hK3) (hF2.tr hF3)
                   rw [← rmb_t hc9 hq] at hb
                   simp only [nI_pred] at hb
                   exact hb)
                | exact ih_8 (i + 1) _ _ (by omega) (by omega) hM3 (hK2.tr hK3) (hF2.tr hF3)
                | exact ih_8 (i + 1) _ _ (by omega) (by omega) hM2 hK2 hF2
            · skip
              have h55 : (rmb (V 7) (mgv V si) t g i).2 ≤ zpop 9 (rag (V 7) (mgv V si) g (i + 1)) := by
                by_cases q : (rmb (V 7) (mgv V si) t g i).2 ≤ zpop 9 (rag (V 7) (mgv V si) g (i + 1))
                · exact q
                · exact absurd ((nI_lem (by have := zpop_le (rag (V 7) (mgv V si) g (i + 1)) (by have := rag_lt (inv := V 7) (h := mgv V si) (g := g) (q := i + 1); omega); omega) (by have := rmb_le (inv := V 7) (h := mgv V si) (t := t) (g := g) i; omega)).mpr q) c_55
              refine z_iload 0 d_Mo_best_58 rfl ?_
              refine z_istore (L' := [(4, _), (6, _), (5, _), (3, _), (0, _), (1, _), (2, _)]) d_Mo_best_60 (by decide) rfl ?_
              refine z_iload 2 d_Mo_best_62 rfl ?_
              refine z_istore_n (L' := [(3, _), (4, _), (6, _), (5, _), (0, _), (1, _), (2, _)]) d_Mo_best_64 rfl (by decide) rfl ?_
              refine z_iinc (v := nI ((i + 1) + 1)) (L' := [(5, _), (3, _), (4, _), (6, _), (0, _), (1, _), (2, _)]) 3 d_Mo_best_65 rfl (nI_1 (i + 1)) (by decide) rfl ?_
              refine z_goto 8 d_Mo_best_68 (by decide) ?_
              refine z_sub (L' := [(5, _), (4, _), (3, _), (0, _), (1, _), (2, _)]) [0, 2, 1, 4, 5, 6] rfl ?_
              first
                | (have hq := h55
                   have hb := ih_8 (i + 1) _ _ (by omega) (by omega) hM3 (hK2.tr hK3) (hF2.tr hF3)
                   rw [← rmb_t hc9 hq] at hb
                   simp only [nI_pred] at hb
                   exact hb)
                | exact ih_8 (i + 1) _ _ (by omega) (by omega) hM3 (hK2.tr hK3) (hF2.tr hF3)
                | exact ih_8 (i + 1) _ _ (by omega) (by omega) hM2 hK2 hF2
          · skip
            rw [rmb_f (inv := V 7) (h := mgv V si) (t := t) (g := g) (n := i) (Or.inl (by unfold rcd; rw [decide_eq_false (p := zpop 9 (i + 1) = t) (fun q => c_32 (by rw [hK2.r (r := 200 + si) (by omega) (by omega), ht, q])), Bool.and_false]))]
            refine z_goto 65 d_Mo_best_35 (by decide) ?_
            refine z_iinc (v := nI ((i + 1) + 1)) (L' := [(5, _), (4, _), (3, _), (0, _), (1, _), (2, _)]) 0 d_Mo_best_65 rfl (nI_1 (i + 1)) (by decide) rfl ?_
            refine z_goto 8 d_Mo_best_68 (by decide) ?_
            first
              | (have hq := h55
                 have hb := ih_8 (i + 1) _ _ (by omega) (by omega) hM3 (hK2.tr hK3) (hF2.tr hF3)
                 rw [← rmb_t hc9 hq] at hb
                 simp only [nI_pred] at hb
                 exact hb)
              | exact ih_8 (i + 1) _ _ (by omega) (by omega) hM3 (hK2.tr hK3) (hF2.tr hF3)
              | exact ih_8 (i + 1) _ _ (by omega) (by omega) hM2 hK2 hF2
  exact key_8 (g + 2) 0 _ _ (by omega) (by omega) hM zKp.rf zFr.rf
