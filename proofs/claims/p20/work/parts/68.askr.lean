
theorem zall_iff {f : Nat → Bool} : ∀ n, zall f n = true ↔ ∀ k, k < n → f k = true
  | 0 => ⟨fun _ k hk => absurd hk (Nat.not_lt_zero k), fun _ => rfl⟩
  | n + 1 => by
    have ih := zall_iff (f := f) n
    show (zall f n && f n) = true ↔ _
    rw [Bool.and_eq_true, ih]
    constructor
    · rintro ⟨h1, h2⟩ k hk
      by_cases e : k = n
      · subst e; exact h2
      · exact h1 k (by omega)
    · intro h
      exact ⟨fun k hk => h k (by omega), h n (by omega)⟩
/-- point n agrees, or it is one of the first t, or none -/
def roK (inv gv : Nat → Int32) (f : Nat → Bool) (t n : Nat) : Bool := !f n || (decide (zcnt f n < t) || decide (zth inv gv (nI (zsetN (zfs f t) 9)) (nI n) = gv n))
section ZOC
variable {inv gv : Nat → Int32} {iv : Nat → Nat} {f : Nat → Bool} {t : Nat}
theorem zfs_t {n : Nat} (h : f n = true) (h2 : zcnt f n < t) : zfs f t n = true := by unfold zfs; rw [h, decide_eq_true h2]; rfl
theorem zfs_f {n : Nat} (h : f n = false ∨ ¬ zcnt f n < t) : zfs f t n = false := by
  unfold zfs
  rcases h with h | h
  · rw [h, Bool.false_and]
  · rw [decide_eq_false h, Bool.and_false]
theorem zoc_N {ps : Int32} (ht : t < 2 ^ 20) (hps : ∀ k, k < 9 → zbt ps k = f k) : ∀ n, n ≤ 9 → zoc ps (nI t) n = nI (zsetN (zfs f t) n)
  | 0, _ => rfl
  | n + 1, h => by
    have ih := zoc_N ht hps n (by omega)
    have hl := (zset_N (zfs f t) n (by omega)).2
    have p2 : 2 ^ n ≤ 2 ^ 8 := Nat.pow_le_pow_right (by decide) (by omega)
    have hc := zcnt_n (f := f) n
    have e : zbc (nI (zsetN (zfs f t) n)) = nI (min t (zcnt f n)) := by rw [zbc_512 _ (by omega), zpop_cnt _ n (by omega), zfs_cnt]
    have hstep : zsetN (zfs f t) (n + 1) = zsetN (zfs f t) n + (if zfs f t n = true then 2 ^ n else 0) := rfl
    unfold zoc
    rw [ih, e, hps n (by omega)]
    by_cases c : f n = true ∧ zcnt f n < t
    · rw [if_pos ⟨c.1, nI_lt (by omega) (by omega)⟩]
      exact zsN_t (by omega) (zfs_t c.1 c.2)
    · rw [if_neg (fun q => c ⟨q.1, by have := (nI_ltI (by omega) (by omega)).mp q.2; omega⟩)]
      have : zfs f t n = false := zfs_f (by
        cases hf : f n with
        | false => exact Or.inl rfl
        | true => exact Or.inr (fun z => c ⟨hf, z⟩))
      rw [hstep, this]
      rfl
theorem zag_ps {ps set : Int32} (hps : ps = nI (zsetN f 9)) : zag inv gv ps set = ps ↔ ∀ k, k < 9 → f k = true → zth inv gv set (nI k) = gv k := by
  have hl := (zset_N f 9 (by decide)).2
  have hb : ∀ k, k < 9 → zbt ps k = f k := fun k hk => by rw [hps, tb_zbt _ (by omega) k hk, zsN_at f 9 (by decide) k hk, decide_eq_true hk, Bool.true_and]
  have hl2 := (zset_N (zagf inv gv ps set) 9 (by decide)).2
  unfold zag
  rw [(zset_N _ 9 (by decide)).1]
  constructor
  · intro h k hk hf
    have e : zsetN (zagf inv gv ps set) 9 = zsetN f 9 := (nI_eq (by omega) (by omega)).mp (h.trans hps)
    have h1 := zsN_at (zagf inv gv ps set) 9 (by decide) k hk
    rw [e, zsN_at f 9 (by decide) k hk, decide_eq_true hk, Bool.true_and, Bool.true_and, hf] at h1
    unfold zagf at h1
    rw [hb k hk, hf, Bool.true_and] at h1
    exact of_decide_eq_true h1.symm
  · intro h
    rw [hps]
    refine congrArg nI (zsN_congr 9 fun k hk => ?_)
    unfold zagf
    rw [← hps, hb k hk]
    cases hf : f k with
    | false => exact Bool.false_and _
    | true => rw [decide_eq_true (h k hk hf), Bool.and_true]
/-- the class's way: all the points agree with the curve of the first t -/
theorem oc_all (hi : zIv inv iv) (hv : zVv iv) {ps : Int32} (hps : ps = nI (zsetN f 9)) (ht : t < 2 ^ 20) (hg : ∀ k, k < 9 → f k = true → gv k = nI (gv k).toNatClampNeg ∧ (gv k).toNatClampNeg < 97) : decide (zag inv gv ps (zoc ps (nI t) 9) = ps) = zall (roK inv gv f t) 9 := by
  have hl := (zset_N f 9 (by decide)).2
  have hl2 := (zset_N (zfs f t) 9 (by decide)).2
  have hb : ∀ k, k < 9 → zbt ps k = f k := fun k hk => by rw [hps, tb_zbt _ (by omega) k hk, zsN_at f 9 (by decide) k hk, decide_eq_true hk, Bool.true_and]
  have hb2 : ∀ k, k < 9 → zbt (nI (zsetN (zfs f t) 9)) k = zfs f t k := fun k hk => by rw [tb_zbt _ (by omega) k hk, zsN_at _ 9 (by decide) k hk, decide_eq_true hk, Bool.true_and]
  have hsub : ∀ k, zfs f t k = true → f k = true := fun k h => by unfold zfs at h; rw [Bool.and_eq_true] at h; exact h.1
  rw [zoc_N ht hb 9 (Nat.le_refl 9), Bool.eq_iff_iff, decide_eq_true_eq, zag_ps hps, zall_iff]
  constructor
  · intro h k hk
    unfold roK
    cases hf : f k with
    | false => rw [Bool.not_false, Bool.true_or]
    | true => rw [decide_eq_true (h k hk hf), Bool.or_true, Bool.or_true]
  · intro h k hk hf
    have := h k hk
    unfold roK at this
    rw [hf, Bool.not_true, Bool.false_or, Bool.or_eq_true, decide_eq_true_eq, decide_eq_true_eq] at this
    rcases this with c | c
    · exact zth_own hi hv hb2 (fun k hk h1 => hg k hk (hsub k h1)) hk (zfs_t hf c)
    · exact c
/-- the reference's way, between two points -/
def ocS (inv gv : Nat → Int32) (f : Nat → Bool) (t : Nat) (P N : Nat → Int32) (ct m : Nat) : Prop := ct = zcnt (zfs f t) m ∧ (∀ n, n < m → zfs f t n = true → P (zcnt (zfs f t) n) = nI n ∧ N (zcnt (zfs f t) n) = gv n) ∧ zall (roK inv gv f t) m = true
variable {P N : Nat → Int32} {ct m : Nat}
theorem ocS.z : ocS inv gv f t P N 0 0 := ⟨rfl, fun n hn => absurd hn (Nat.not_lt_zero n), rfl⟩
theorem ocS.t_le (h : ocS inv gv f t P N ct m) (hc : ct = t) : t ≤ zcnt f m := by
  have := h.1
  rw [zfs_cnt] at this
  omega
theorem ocS.t_lt (h : ocS inv gv f t P N ct m) (hc : ct ≠ t) : zcnt f m < t := by
  have := h.1
  rw [zfs_cnt] at this
  omega
theorem ocS.keep (h : ocS inv gv f t P N ct m) (hz : zfs f t m = false) (hr : roK inv gv f t m = true) : ocS inv gv f t P N ct (m + 1) := by
  obtain ⟨h1, h2, h3⟩ := h
  refine ⟨by rw [zcnt_skip hz]; exact h1, fun n hn hf => h2 n ?_ hf, ?_⟩
  · have : n ≠ m := fun e => by rw [e, hz] at hf; cases hf
    omega
  · show (zall (roK inv gv f t) m && roK inv gv f t m) = true
    rw [h3, hr]; rfl
theorem ocS.skip (h : ocS inv gv f t P N ct m) (hf : f m = false) : ocS inv gv f t P N ct (m + 1) :=
  h.keep (zfs_f (Or.inl hf)) (by unfold roK; rw [hf, Bool.not_false, Bool.true_or])
theorem ocS.agree (h : ocS inv gv f t P N ct m) (hc : ct = t) (ha : zth inv gv (nI (zsetN (zfs f t) 9)) (nI m) = gv m) : ocS inv gv f t P N ct (m + 1) :=
  h.keep (zfs_f (Or.inr (Nat.not_lt.mpr (h.t_le hc)))) (by unfold roK; rw [decide_eq_true ha, Bool.or_true, Bool.or_true])
theorem ocS.add (h : ocS inv gv f t P N ct m) (hf : f m = true) (hc : ct ≠ t) : ocS inv gv f t (upd P ct (nI m)) (upd N ct (gv m)) (ct + 1) (m + 1) := by
  have hlt := h.t_lt hc
  have hz := zfs_t hf hlt
  obtain ⟨h1, h2, h3⟩ := h
  refine ⟨by rw [zcnt_step hz, h1], fun n hn hfn => ?_, ?_⟩
  · by_cases e : n = m
    · subst e
      rw [← h1, pk_us, pk_us]
      exact ⟨rfl, rfl⟩
    · have : zcnt (zfs f t) n ≠ ct := fun q => e ((zcnt_inj (f := zfs f t) hfn hz).mp (q.trans h1))
      rw [pk_un this, pk_un this]
      exact h2 n (by omega) hfn
  · show (zall (roK inv gv f t) m && roK inv gv f t m) = true
    rw [h3]
    unfold roK
    rw [decide_eq_true hlt, Bool.true_or, Bool.or_true]
    rfl
theorem ocS.fail (h : ocS inv gv f t P N ct m) (hf : f m = true) (hc : ct = t) (hm : m < 9) (ha : ¬ zth inv gv (nI (zsetN (zfs f t) 9)) (nI m) = gv m) : zall (roK inv gv f t) 9 = false := by
  refine zall_no (i := m) ?_ 9 hm
  unfold roK
  rw [hf, decide_eq_false ha, decide_eq_false (Nat.not_lt.mpr (h.t_le hc))]
  rfl
theorem ocS.th (h : ocS inv gv f t P N ct m) (hm : m ≤ 9) (hi : zIv inv iv) {g : Nat → Nat} (hg : ∀ k, k < 9 → f k = true → gv k = nI (g k) ∧ g k < 97) (hc : ct = t) {x : Nat} (hx : x < 97) : zr97 (zmO inv P N (nI x) ct ct) = zth inv gv (nI (zsetN (zfs f t) 9)) (nI x) := by
  have hle := h.t_le hc
  have hl2 := (zset_N (zfs f t) 9 (by decide)).2
  have hb2 : ∀ k, k < 9 → zbt (nI (zsetN (zfs f t) 9)) k = zfs f t k := fun k hk => by rw [tb_zbt _ (by omega) k hk, zsN_at _ 9 (by decide) k hk, decide_eq_true hk, Bool.true_and]
  have hsub : ∀ k, zfs f t k = true → f k = true ∧ zcnt f k < t := fun k h => by unfold zfs at h; rw [Bool.and_eq_true, decide_eq_true_eq] at h; exact h
  have h9 : zcnt (zfs f t) 9 = ct := by
    have := zcnt_le (f := f) 9 hm
    rw [zfs_cnt]
    omega
  have key := zm_th (b := zfs f t) (gv := gv) (pt := P) (nb := N) (g := g) hi hb2 (fun k hk h1 => hg k hk (hsub k h1).1) hx (fun n hn h1 => h.2.1 n (by
    refine Nat.lt_of_not_le fun q => ?_
    have h3 := zcnt_le (f := f) n q
    have h4 := (hsub n h1).2
    omega) h1)
  rw [h9] at key
  exact key
end ZOC
/-- point 0 has a number of its own -/
def gvw (w : Int32) (h : Nat → Int32) : Nat → Int32
  | 0 => w
  | k + 1 => h k
def gpw (b : Bool) (F : Nat → Bool) : Nat → Bool
  | 0 => b
  | k + 1 => F k
theorem gpw_N (b : Bool) (F : Nat → Bool) : ∀ n, zsetN (gpw b F) (n + 1) = 2 * zsetN F n + (if b = true then 1 else 0)
  | 0 => by
    show 0 + (if b = true then 2 ^ 0 else 0) = 2 * 0 + (if b = true then 1 else 0)
    rfl
  | n + 1 => by
    have ih := gpw_N b F n
    show zsetN (gpw b F) (n + 1) + (if F n then 2 ^ (n + 1) else 0) = 2 * (zsetN F n + (if F n then 2 ^ n else 0)) + _
    rw [ih, Nat.pow_succ]
    by_cases hf : F n = true
    · rw [if_pos hf, if_pos hf]; omega
    · rw [if_neg hf, if_neg hf]
      omega
theorem roK_congr {inv inw gv gw : Nat → Int32} {f g : Nat → Bool} {t : Nat} (he : ∀ j, j < 97 → inv j = inw j) (hf : ∀ k, k < 9 → f k = g k) (hg : ∀ k, k < 9 → g k = true → gv k = gw k) : zall (roK inv gv f t) 9 = zall (roK inw gw g t) 9 := by
  have hfs : ∀ k, k < 9 → zfs f t k = zfs g t k := fun k hk => by
    unfold zfs
    rw [hf k hk, zcnt_congr (g := g) k (fun j hj => hf j (by omega))]
  have es : zsetN (zfs f t) 9 = zsetN (zfs g t) 9 := zsN_congr 9 hfs
  have hl2 := (zset_N (zfs g t) 9 (by decide)).2
  rw [Bool.eq_iff_iff, zall_iff, zall_iff]
  have key : ∀ k, k < 9 → roK inv gv f t k = roK inw gw g t k := fun k hk => by
    unfold roK
    rw [hf k hk, zcnt_congr (g := g) k (fun j hj => hf j (by omega)), es, zth_inv he]
    cases hgk : g k with
    | false => rw [Bool.not_false, Bool.true_or, Bool.true_or]
    | true =>
      rw [hg k hk hgk, show zth inw gv (nI (zsetN (zfs g t) 9)) (nI k) = zth inw gw (nI (zsetN (zfs g t) 9)) (nI k) from zthO_congr (fun j hj h1 => by
        rw [tb_zbt _ (by omega) j hj, zsN_at _ 9 (by decide) j hj, decide_eq_true hj, Bool.true_and] at h1
        unfold zfs at h1
        rw [Bool.and_eq_true] at h1
        exact hg j hj h1.1) 9 (Nat.le_refl 9)]
  exact ⟨fun h k hk => by rw [← key k hk]; exact h k hk, fun h k hk => by rw [key k hk]; exact h k hk⟩

def qMy (V : Nat → Nat → Int32) (si g t : Nat) (w : Int32) : Int32 := zb (zall (roK (V 7) (gvw w (mgv V si)) (gpw true (fun k => (mgr V si g).testBit k)) t) 9)
theorem qMy_t {V : Nat → Nat → Int32} {si g t : Nat} {w : Int32} (h : zall (roK (V 7) (gvw w (mgv V si)) (gpw true (fun k => (mgr V si g).testBit k)) t) 9 = true) : (1 : Int32) = qMy V si g t w := by
  unfold qMy
  rw [h]
  rfl
theorem qMy_f {V : Nat → Nat → Int32} {si g t : Nat} {w : Int32} (h : zall (roK (V 7) (gvw w (mgv V si)) (gpw true (fun k => (mgr V si g).testBit k)) t) 9 = false) : (0 : Int32) = qMy V si g t w := by
  unfold qMy
  rw [h]
  rfl
def rMy (nk ns : Nat) (x set w t b : Int32) (W : Nat → Nat → Int32) : Prop := (zin x 0 (nI ns - 1) = false ∧ t = 1) ∨ (∃ s, s < ns ∧ x = nI s ∧ (((zsetok nk set = false ∨ zin w 0 96 = false) ∧ t = 2) ∨ (∃ g, g < 2 ^ nk ∧ set = nI g ∧ zin w 0 96 = true ∧ t = 0 ∧ ∃ t9, 1 ≤ t9 ∧ t9 ≤ 4 ∧ W (200 + s) 0 = nI t9 ∧ b = qMy W s g t9 w)))
theorem ocS.one {inv gv : Nat → Int32} {f : Nat → Bool} {t : Nat} {P N : Nat → Int32} (hf : f 0 = true) (ht : 1 ≤ t) (hP : P 0 = 0) (hN : N 0 = gv 0) : ocS inv gv f t P N 1 1 := by
  have hz : zfs f t 0 = true := zfs_t hf (show zcnt f 0 < t from ht)
  refine ⟨by rw [zcnt_step hz]; rfl, fun n hn _ => ?_, ?_⟩
  · obtain rfl : n = 0 := by omega
    exact ⟨hP.trans nI_0.symm, hN⟩
  · show (true && roK inv gv f t 0) = true
    unfold roK
    rw [decide_eq_true (show zcnt f 0 < t from ht), Bool.true_or, Bool.or_true]
    rfl

set_option maxHeartbeats 4000000 in
set_option maxRecDepth 100000 in
theorem m_Mo_mayE {g0 : State} {d : zD} {l : Launch} {a0 : Array Value} (hs0 : zS0 d a0 g0) (hst : l.stackTraces = false) {G : zG} {B : Nat → Nat} {V : Nat → Nat → Int32} {nk ns ne ec : Nat} (hM : zM d B V nk ns ne ec G) (x set w : Int32) {iv : Nat → Nat} (hok : mOk V nk ns iv) : zMet g0 d l y_Mo_may c_Mo_may 10 ((Option.some Jvm.ClassFile.FieldType.boolean)) 12 2 18 [.ref (B 0), .int x, .int set, .int w] (G) (mAq d B nk ns ne ec V G (rMy nk ns x set w)) (zNo) := by
  have hnk : nk ≤ 8 := hM.2.1
  have hns : ns ≤ 6 := hM.2.2.1
  have hne : ne ≤ 64 := hM.2.2.2.1
  have hp2 : 2 ^ nk ≤ 256 := Nat.pow_le_pow_right (n := 2) (by decide) hnk
  refine z_entry hs0 hst (by decide) (Nat.le_of_ble_eq_true rfl) (fun p e s m args below meth c => ?_)
  refine z_aload_n 0 d_Mo_may_0 rfl rfl ?_
  refine z_iconst (v := 0) d_Mo_may_1 (by decide) ?_
  refine z_put zc_Mo 0 (by decide) qF_Mo_36 hM.mo rfl rfl rfl (Nat.le_of_ble_eq_true rfl) d_Mo_may_2 ?_
  obtain ⟨V1, hM1, hK1, hF1, hT1⟩ := hM.putT 0
  refine z_aload_n 0 d_Mo_may_5 rfl rfl ?_
  refine z_iload_n 1 d_Mo_may_6 rfl rfl ?_
  refine z_callV0 (m_Mo_isSecret hs0 hst hM1 x) ym_Mo_isSecret qM_Mo_147 qI_Mo_isSecret qV_Mo_Mo_isSecret zc_Mo hM1.mo d_Mo_may_7 rfl (Nat.le_of_ble_eq_true rfl) ⟨by decide, by decide⟩ ⟨Nat.le_of_ble_eq_true rfl, Nat.le_of_ble_eq_true rfl⟩ ?_
  refine z_if_ne 27 d_Mo_may_10 (by decide) (fun c_10 => ?_) (fun c_10 => ?_)
  · skip
    obtain ⟨si, hsi, rfl⟩ := zin_n ((zb_n0 _).mp c_10) (by omega)
    refine z_aload_n 0 d_Mo_may_27 rfl rfl ?_
    refine z_iload_n 2 d_Mo_may_28 rfl rfl ?_
    refine z_callV0 (m_Mo_isSet hs0 hst hM1 set) ym_Mo_isSet qM_Mo_129 qI_Mo_isSet qV_Mo_Mo_isSet zc_Mo hM1.mo d_Mo_may_29 rfl (Nat.le_of_ble_eq_true rfl) ⟨by decide, by decide⟩ ⟨Nat.le_of_ble_eq_true rfl, Nat.le_of_ble_eq_true rfl⟩ ?_
    refine z_if_eq 45 d_Mo_may_32 (by decide) (fun c_32 => ?_) (fun c_32 => ?_)
    · skip
      refine z_aload_n 0 d_Mo_may_45 rfl rfl ?_
      refine z_iconst (v := 2) d_Mo_may_46 (by decide) ?_
      refine z_callV0 (m_Mo_no hs0 hst hM1.mo 2) ym_Mo_no qM_Mo_119 qI_Mo_no qV_Mo_Mo_no zc_Mo hM1.mo d_Mo_may_47 rfl (Nat.le_of_ble_eq_true rfl) ⟨by decide, by decide⟩ ⟨Nat.le_of_ble_eq_true rfl, Nat.le_of_ble_eq_true rfl⟩ ?_
      obtain ⟨V9, hM9, hK9, hF9, hT9⟩ := hM1.putT 2
      refine z_if_le 57 d_Mo_may_50 (by decide) (fun c_50 => ?_) (fun c_50 => absurd (by decide) c_50)
      refine z_iconst (v := 0) d_Mo_may_57 (by decide) ?_
      exact z_zret rfl (by first | rfl | exact zb_nar _) (by first | exact ⟨0, V9, rfl, Or.inr ⟨si, hsi, rfl, Or.inl ⟨Or.inl ((zb_0 _).mp c_32), hT9⟩⟩, hM9, hK1.tr hK9, hF1.tr hF9⟩ | exact ⟨0, V9, rfl, Or.inr ⟨si, hsi, rfl, Or.inl ⟨Or.inr ((zb_0 _).mp c_42), hT9⟩⟩, hM9, hK1.tr hK9, hF1.tr hF9⟩) (by first | decide | omega) (by first | decide | omega) d_Mo_may_58
    · skip
      obtain ⟨g, hg, rfl⟩ := zsetok_le hnk ((zb_n0 _).mp c_32)
      refine z_iload_n 3 d_Mo_may_35 rfl rfl ?_
      refine z_iconst (v := 0) d_Mo_may_36 (by decide) ?_
      refine z_bipush (v := 96) d_Mo_may_37 (by decide) ?_
      refine z_callS0 (m_Mo_in hs0 hst w 0 _) ym_Mo_in qM_Mo_115 qS_Mo_in d_Mo_may_39 rfl (Nat.le_of_ble_eq_true rfl) ⟨by decide, by decide⟩ ⟨Nat.le_of_ble_eq_true rfl, Nat.le_of_ble_eq_true rfl⟩ ?_
      refine z_if_ne 59 d_Mo_may_42 (by decide) (fun c_42 => ?_) (fun c_42 => ?_)
      · skip
        obtain ⟨wn, hwn, rfl⟩ := zin_l (n := 96) ((zb_n0 _).mp c_42) (by decide)
        have hok1 := hK1.ok hok
        have hsm := mgr_sm (s := g) hok1 hsi
        have hgq : mgr V1 si g < 2 ^ nk := Nat.lt_of_le_of_lt (mgr_le (by omega)) hg
        have hl9 := mgr_lt (V := V1) (si := si) (s := g)
        obtain ⟨t, ht1, ht4, ht⟩ := hM1.tn hsi
        have hgs9 : ∀ k, k < 9 → (gpw true (fun k => (mgr V1 si g).testBit k)) k = true → gvw (nI wn) (mgv V1 si) k = nI (gvw (nI wn) (mgv V1 si) k).toNatClampNeg ∧ (gvw (nI wn) (mgv V1 si) k).toNatClampNeg < 97 := fun k hk h1 => by
          match k, hk, h1 with
          | 0, _, _ => exact ⟨(congrArg nI (nI_clamp (by omega))).symm, by show (nI wn).toNatClampNeg < 97; rw [nI_clamp (by omega)]; omega⟩
          | k + 1, hk, h1 =>
            obtain ⟨j, hj, e⟩ := hsm k (by omega) h1
            show mgv V1 si k = nI (mgv V1 si k).toNatClampNeg ∧ (mgv V1 si k).toNatClampNeg < 97
            rw [e, nI_clamp (by omega)]
            exact ⟨rfl, hj⟩
        refine z_aload_n 0 d_Mo_may_59 rfl rfl ?_
        refine z_get zc_Mo 7 (by decide) qF_Mo_20 hM1.mo rfl d_Mo_may_60 ?_
        refine z_iload_n 1 d_Mo_may_63 rfl rfl ?_
        refine z_callF0 (m_AL_get hs0 hst (hM1.sA hsi) hsi (if_pos hsi)) ym_AL_get zF_AL_get qM_Mo_51 zc_AL (hM1.sA hsi).1 d_Mo_may_64 rfl (Nat.le_of_ble_eq_true rfl) ⟨by decide, by decide⟩ ⟨Nat.le_of_ble_eq_true rfl, Nat.le_of_ble_eq_true rfl⟩ ?_
        refine z_castS zc_MS qK_Mo_47 (hM1.se hsi).1 d_Mo_may_69 ?_
        refine z_astore (L' := [(4, _), (0, _), (1, _), (2, _), (3, _)]) d_Mo_may_72 (by decide) rfl ?_
        refine z_bipush (v := 9) d_Mo_may_74 (by decide) ?_
        refine z_newaI 9 qA_int (by decide) rfl (by decide) ⟨by decide, by decide⟩ d_Mo_may_76 (fun a ha hab => ?_)
        refine z_astore (L' := [(5, _), (4, _), (0, _), (1, _), (2, _), (3, _)]) d_Mo_may_78 (by decide) rfl ?_
        refine z_bipush (v := 9) d_Mo_may_80 (by decide) ?_
        refine z_newaI 9 qA_int (by decide) rfl (by decide) ⟨by decide, by decide⟩ d_Mo_may_82 (fun b hb hbb => ?_)
        have nab : a ≠ b := ne_of_none zu_s hb
        have hb0 : (zu G (B 0) (zmh B 0 (V 0 1) (V 0 2) (V 0 3) (V 0 4) (V 0 5))) b = none := by rw [zu_n nab.symm] at hb; exact hb
        have hMo : ∀ u w, zM d B V1 nk ns ne ec (zu (zu (zu G (B 0) (zmh B 0 (V 0 1) (V 0 2) (V 0 3) (V 0 4) (V 0 5))) a u) b w) := fun u w => (hM1.out (hM1.nn_ ha)).out (hM1.nn_ hb0)
        refine z_astore (L' := [(6, _), (5, _), (4, _), (0, _), (1, _), (2, _), (3, _)]) d_Mo_may_84 (by decide) rfl ?_
        refine z_aload 0 d_Mo_may_86 rfl ?_
        refine z_iconst (v := (nI 0)) d_Mo_may_88 (by decide) ?_
        refine z_iload_n 6 d_Mo_may_89 rfl rfl ?_
        refine z_iastN zu_s (show 0 < 9 by decide) (by decide) d_Mo_may_90 ?_
        refine z_one ?_
        refine z_iconst (v := (nI 1)) d_Mo_may_91 (by decide) ?_
        refine z_istore (L' := [(7, _), (6, _), (5, _), (4, _), (0, _), (1, _), (2, _), (3, _)]) d_Mo_may_92 (by decide) rfl ?_
        refine z_aload_n 4 d_Mo_may_94 rfl rfl ?_
        refine z_aload 3 d_Mo_may_95 rfl ?_
        refine z_iload_n 6 d_Mo_may_97 rfl rfl ?_
        refine z_callV1 ((m_Mo_groupE hs0 hst (hMo _ _) hsi (g := g) (by omega))) ym_Mo_group qM_Mo_150 qI_Mo_group qV_Mo_Mo_group zc_Mo (hMo _ _).mo d_Mo_may_98 rfl (Nat.le_of_ble_eq_true rfl) ⟨by decide, by decide⟩ ⟨Nat.le_of_ble_eq_true rfl, Nat.le_of_ble_eq_true rfl⟩ ?_
        refine z_istore (L' := [(8, _), (7, _), (6, _), (5, _), (4, _), (0, _), (1, _), (2, _), (3, _)]) d_Mo_may_101 (by decide) rfl ?_
        refine z_iconst (v := (nI 0)) d_Mo_may_103 (by decide) ?_
        refine z_istore (L' := [(9, _), (8, _), (7, _), (6, _), (5, _), (4, _), (0, _), (1, _), (2, _), (3, _)]) d_Mo_may_104 (by decide) rfl ?_
        have key_106 : ∀ (n : Nat) (i : Nat) (ct : Nat) (P2 N2 : Nat → Int32), 8 - i < n → (i ≤ 8) → (ct ≤ i + 1) → (ocS (V1 7) (gvw (nI wn) (mgv V1 si)) (gpw true (fun k => (mgr V1 si g).testBit k)) t P2 N2 ct (i + 1)) → Z g0 d y_Mo_may c_Mo_may 10 ((Option.some Jvm.ClassFile.FieldType.boolean)) [] p l e (zR 12 2 18) s m args below meth c (vx_MQ below (zQc g0 d (mAq d B nk ns ne ec V G (rMy nk ns (nI si) (nI g) (nI wn)))) (zXc g0 d (zNo)) args s 2 18 (zA g0)) 2 18 (zu (zu (zu G (B 0) (zmh B 0 (V 0 1) (V 0 2) (V 0 3) (V 0 4) (V 0 5))) a (zI d 9 P2)) b (zI d 9 N2)) [(9, .int (nI i)), (8, .int (nI (mgr V1 si g))), (7, .int (nI ct)), (6, .ref b), (5, .ref a), (4, .ref (B (200 + si))), (0, .ref (B 0)), (1, .int (nI si)), (2, .int (nI g)), (3, .int (nI wn))] [] 106 := by
          intro n
          induction n with
          | zero => intro i ct P2 N2 h0; exact absurd h0 (Nat.not_lt_zero _)
          | succ n ih_106 =>
            intro i ct P2 N2 hm_106 hi hct hoc
            refine z_iload 0 d_Mo_may_106 rfl ?_
            refine z_bipush (v := 8) d_Mo_may_108 (by decide) ?_
            refine z_icmp_ge 207 d_Mo_may_110 (by decide) (fun c_110 => ?_) (fun c_110 => ?_)
            · skip
              obtain rfl : i = 8 := by
                have := (nI_leI (a := 8) (b := i) (by decide) (by omega)).mp c_110
                omega
              refine z_iconst (v := 1) d_Mo_may_207 (by decide) ?_
              exact z_zret rfl (by first | rfl | exact zb_nar _) (⟨1, V1, rfl, Or.inr ⟨si, hsi, rfl, Or.inr ⟨g, hg, rfl, (zb_n0 _).mp c_42, hT1, t, ht1, ht4, ht, qMy_t hoc.2.2⟩⟩, hMo _ _, hK1, hF1.tr ((zFr.new ha).nw hb0)⟩) (by first | decide | omega) (by first | decide | omega) d_Mo_may_208
            · skip
              have hi6 : i < 8 := Nat.lt_of_not_le fun q => c_110 (nI_le (a := 8) (b := i) q (by omega))
              refine z_iload 1 d_Mo_may_113 rfl ?_
              refine z_iload 0 d_Mo_may_115 rfl ?_
              refine z_callS0 (m_Mo_has hs0 hst (nI (mgr V1 si g)) (nI i)) ym_Mo_has qM_Mo_76 qS_Mo_has d_Mo_may_117 rfl (Nat.le_of_ble_eq_true rfl) ⟨by decide, by decide⟩ ⟨Nat.le_of_ble_eq_true rfl, Nat.le_of_ble_eq_true rfl⟩ ?_
              refine z_if_ne 126 d_Mo_may_120 (by decide) (fun c_120 => ?_) (fun c_120 => ?_)
              · skip
                have hk6 : i < nk := zbt_lt hgq (by omega) hi6 c_120
                have hfi : (gpw true (fun k => (mgr V1 si g).testBit k)) (i + 1) = true := (tb_zbt _ (by omega) i (by omega)).symm.trans ((zb_n0 _).mp c_120)
                refine z_iload 2 d_Mo_may_126 rfl ?_
                refine z_aload 5 d_Mo_may_128 rfl ?_
                refine z_get zc_MS 0 (by decide) qF_Mo_69 ((hMo _ _).se hsi).1 rfl d_Mo_may_130 ?_
                refine z_topv ht ?_
                refine z_icmp_ne 163 d_Mo_may_133 (by decide) (fun c_133 => ?_) (fun c_133 => ?_)
                · skip
                  refine z_iload 2 d_Mo_may_163 rfl ?_
                  refine z_aload 5 d_Mo_may_165 rfl ?_
                  refine z_get zc_MS 0 (by decide) qF_Mo_69 ((hMo _ _).se hsi).1 rfl d_Mo_may_167 ?_
                  refine z_topv ht ?_
                  refine z_icmp_ne 176 d_Mo_may_170 (by decide) (fun c_170 => ?_) (fun c_170 => ?_)
                  · skip
                    refine z_aload 4 d_Mo_may_176 rfl ?_
                    refine z_iload 2 d_Mo_may_178 rfl ?_
                    refine z_iload 0 d_Mo_may_180 rfl ?_
                    refine z_iconst (v := 1) d_Mo_may_182 (by decide) ?_
                    refine z_iadd d_Mo_may_183 ?_
                    refine z_topv (nI_1 i) ?_
                    refine z_iastN ((zu_n nab).trans zu_s) (show ct < 9 by omega) (by decide) d_Mo_may_184 ?_
                    refine z_geq (G' := zu (zu (zu G (B 0) (zmh B 0 (V 0 1) (V 0 2) (V 0 3) (V 0 4) (V 0 5))) a (zI d 9 (upd P2 ct (nI (i + 1))))) b (zI d 9 N2)) (by rw [zu_comm nab.symm, zu_zu] <;> rfl) ?_
                    refine z_aload 3 d_Mo_may_185 rfl ?_
                    refine z_iload 2 d_Mo_may_187 rfl ?_
                    refine z_aload_n 6 d_Mo_may_189 rfl rfl ?_
                    refine z_aload 5 d_Mo_may_190 rfl ?_
                    refine z_iload 0 d_Mo_may_192 rfl ?_
                    refine z_callV0 (m_Mo_gives hs0 hst (hMo _ _) hsi hk6) ym_Mo_gives qM_Mo_80 qI_Mo_gives qV_Mo_Mo_gives zc_Mo (hMo _ _).mo d_Mo_may_194 rfl (Nat.le_of_ble_eq_true rfl) ⟨by decide, by decide⟩ ⟨Nat.le_of_ble_eq_true rfl, Nat.le_of_ble_eq_true rfl⟩ ?_
                    refine z_topv (v := mgv V1 si i) rfl ?_
                    refine z_iastN zu_s (show ct < 9 by omega) (by decide) d_Mo_may_197 ?_
                    refine z_one ?_
                    refine z_iinc (v := nI (ct + 1)) (L' := [(7, _), (9, _), (8, _), (6, _), (5, _), (4, _), (0, _), (1, _), (2, _), (3, _)]) 2 d_Mo_may_198 rfl (nI_1 ct) (by decide) rfl ?_
                    refine z_iinc (v := nI (i + 1)) (L' := [(9, _), (7, _), (8, _), (6, _), (5, _), (4, _), (0, _), (1, _), (2, _), (3, _)]) 1 d_Mo_may_201 rfl (nI_1 i) (by decide) rfl ?_
                    refine z_goto 106 d_Mo_may_204 (by decide) ?_
                    refine z_sub (L' := [(9, _), (8, _), (7, _), (6, _), (5, _), (4, _), (0, _), (1, _), (2, _), (3, _)]) [0, 2, 1, 3, 4, 5, 6, 7, 8, 9] rfl ?_
                    first
                      | exact absurd c_170 c_133
                      | exact absurd c_133 c_170
                      | exact ih_106 (i + 1) (ct + 1) _ _ (by omega) (by omega) (by omega) (hoc.add hfi (fun q => c_170 (congrArg nI q)))
                      | exact ih_106 (i + 1) ct _ _ (by omega) (by omega) (by omega) (hoc.agree hctt (hth.symm.trans c_158))
                      | exact ih_106 (i + 1) ct _ _ (by omega) (by omega) (by omega) (hoc.skip hfn)
                  · skip
                    refine z_goto 201 d_Mo_may_173 (by decide) ?_
                    refine z_iinc (v := nI (i + 1)) (L' := [(9, _), (8, _), (7, _), (6, _), (5, _), (4, _), (0, _), (1, _), (2, _), (3, _)]) 0 d_Mo_may_201 rfl (nI_1 i) (by decide) rfl ?_
                    refine z_goto 106 d_Mo_may_204 (by decide) ?_
                    first
                      | exact absurd c_170 c_133
                      | exact absurd c_133 c_170
                      | exact ih_106 (i + 1) (ct + 1) _ _ (by omega) (by omega) (by omega) (hoc.add hfi (fun q => c_170 (congrArg nI q)))
                      | exact ih_106 (i + 1) ct _ _ (by omega) (by omega) (by omega) (hoc.agree hctt (hth.symm.trans c_158))
                      | exact ih_106 (i + 1) ct _ _ (by omega) (by omega) (by omega) (hoc.skip hfn)
                · skip
                  have hctt : ct = t := (nI_eq (by omega) (by omega)).mp c_133
                  have hth := hoc.th (by omega) hok1.1 (g := fun k => (gvw (nI wn) (mgv V1 si) k).toNatClampNeg) hgs9 hctt (x := i + 1) (by omega)
                  refine z_aload_n 6 d_Mo_may_136 rfl rfl ?_
                  refine z_aload 4 d_Mo_may_137 rfl ?_
                  refine z_aload 3 d_Mo_may_139 rfl ?_
                  refine z_iload 2 d_Mo_may_141 rfl ?_
                  refine z_iload 0 d_Mo_may_143 rfl ?_
                  refine z_iconst (v := 1) d_Mo_may_145 (by decide) ?_
                  refine z_iadd d_Mo_may_146 ?_
                  refine z_topv (nI_1 i) ?_
                  refine z_callV0 (m_Mo_through hs0 hst (hMo _ _) ((zu_n nab).trans zu_s) zu_s (show ct ≤ 9 by omega) (by decide) (nI (i + 1))) ym_Mo_through qM_Mo_84 qI_Mo_through qV_Mo_Mo_through zc_Mo (hMo _ _).mo d_Mo_may_147 rfl (Nat.le_of_ble_eq_true rfl) ⟨by decide, by decide⟩ ⟨Nat.le_of_ble_eq_true rfl, Nat.le_of_ble_eq_true rfl⟩ ?_
                  refine z_aload_n 6 d_Mo_may_150 rfl rfl ?_
                  refine z_aload 5 d_Mo_may_151 rfl ?_
                  refine z_iload 0 d_Mo_may_153 rfl ?_
                  refine z_callV0 (m_Mo_gives hs0 hst (hMo _ _) hsi hk6) ym_Mo_gives qM_Mo_80 qI_Mo_gives qV_Mo_Mo_gives zc_Mo (hMo _ _).mo d_Mo_may_155 rfl (Nat.le_of_ble_eq_true rfl) ⟨by decide, by decide⟩ ⟨Nat.le_of_ble_eq_true rfl, Nat.le_of_ble_eq_true rfl⟩ ?_
                  refine z_topv (v := mgv V1 si i) rfl ?_
                  refine z_icmp_eq 163 d_Mo_may_158 (by decide) (fun c_158 => ?_) (fun c_158 => ?_)
                  · skip
                    refine z_iload 2 d_Mo_may_163 rfl ?_
                    refine z_aload 5 d_Mo_may_165 rfl ?_
                    refine z_get zc_MS 0 (by decide) qF_Mo_69 ((hMo _ _).se hsi).1 rfl d_Mo_may_167 ?_
                    refine z_topv ht ?_
                    refine z_icmp_ne 176 d_Mo_may_170 (by decide) (fun c_170 => ?_) (fun c_170 => ?_)
                    · skip
                      refine z_aload 4 d_Mo_may_176 rfl ?_
                      refine z_iload 2 d_Mo_may_178 rfl ?_
                      refine z_iload 0 d_Mo_may_180 rfl ?_
                      refine z_iconst (v := 1) d_Mo_may_182 (by decide) ?_
                      refine z_iadd d_Mo_may_183 ?_
                      refine z_topv (nI_1 i) ?_
                      refine z_iastN ((zu_n nab).trans zu_s) (show ct < 9 by omega) (by decide) d_Mo_may_184 ?_
                      refine z_geq (G' := zu (zu (zu G (B 0) (zmh B 0 (V 0 1) (V 0 2) (V 0 3) (V 0 4) (V 0 5))) a (zI d 9 (upd P2 ct (nI (i + 1))))) b (zI d 9 N2)) (by rw [zu_comm nab.symm, zu_zu] <;> rfl) ?_
                      refine z_aload 3 d_Mo_may_185 rfl ?_
                      refine z_iload 2 d_Mo_may_187 rfl ?_
                      refine z_aload_n 6 d_Mo_may_189 rfl rfl ?_
                      refine z_aload 5 d_Mo_may_190 rfl ?_
                      refine z_iload 0 d_Mo_may_192 rfl ?_
                      refine z_callV0 (m_Mo_gives hs0 hst (hMo _ _) hsi hk6) ym_Mo_gives qM_Mo_80 qI_Mo_gives qV_Mo_Mo_gives zc_Mo (hMo _ _).mo d_Mo_may_194 rfl (Nat.le_of_ble_eq_true rfl) ⟨by decide, by decide⟩ ⟨Nat.le_of_ble_eq_true rfl, Nat.le_of_ble_eq_true rfl⟩ ?_
                      refine z_topv (v := mgv V1 si i) rfl ?_
                      refine z_iastN zu_s (show ct < 9 by omega) (by decide) d_Mo_may_197 ?_
                      refine z_one ?_
                      refine z_iinc (v := nI (ct + 1)) (L' := [(7, _), (9, _), (8, _), (6, _), (5, _), (4, _), (0, _), (1, _), (2, _), (3, _)]) 2 d_Mo_may_198 rfl (nI_1 ct) (by decide) rfl ?_
                      refine z_iinc (v := nI (i + 1)) (L' := [(9, _), (7, _), (8, _), (6, _), (5, _), (4, _), (0, _), (1, _), (2, _), (3, _)]) 1 d_Mo_may_201 rfl (nI_1 i) (by decide) rfl ?_
                      refine z_goto 106 d_Mo_may_204 (by decide) ?_
                      refine z_sub (L' := [(9, _), (8, _), (7, _), (6, _), (5, _), (4, _), (0, _), (1, _), (2, _), (3, _)]) [0, 2, 1, 3, 4, 5, 6, 7, 8, 9] rfl ?_
                      first
                        | exact absurd c_170 c_133
                        | exact absurd c_133 c_170
                        | exact ih_106 (i + 1) (ct + 1) _ _ (by omega) (by omega) (by omega) (hoc.add hfi (fun q => c_170 (congrArg nI q)))
                        | exact ih_106 (i + 1) ct _ _ (by omega) (by omega) (by omega) (hoc.agree hctt (hth.symm.trans c_158))
                        | exact ih_106 (i + 1) ct _ _ (by omega) (by omega) (by omega) (hoc.skip hfn)
                    · skip
                      refine z_goto 201 d_Mo_may_173 (by decide) ?_
                      refine z_iinc (v := nI (i + 1)) (L' := [(9, _), (8, _), (7, _), (6, _), (5, _), (4, _), (0, _), (1, _), (2, _), (3, _)]) 0 d_Mo_may_201 rfl (nI_1 i) (by decide) rfl ?_
                      refine z_goto 106 d_Mo_may_204 (by decide) ?_
                      first
                        | exact absurd c_170 c_133
                        | exact absurd c_133 c_170
                        | exact ih_106 (i + 1) (ct + 1) _ _ (by omega) (by omega) (by omega) (hoc.add hfi (fun q => c_170 (congrArg nI q)))
                        | exact ih_106 (i + 1) ct _ _ (by omega) (by omega) (by omega) (hoc.agree hctt (hth.symm.trans c_158))
                        | exact ih_106 (i + 1) ct _ _ (by omega) (by omega) (by omega) (hoc.skip hfn)
                  · skip
                    refine z_iconst (v := 0) d_Mo_may_161 (by decide) ?_
                    exact z_zret rfl (by first | rfl | exact zb_nar _) (⟨0, V1, rfl, Or.inr ⟨si, hsi, rfl, Or.inr ⟨g, hg, rfl, (zb_n0 _).mp c_42, hT1, t, ht1, ht4, ht, qMy_f (hoc.fail hfi hctt (by omega) (fun q => c_158 (hth.trans q)))⟩⟩, hMo _ _, hK1, hF1.tr ((zFr.new ha).nw hb0)⟩) (by first | decide | omega) (by first | decide | omega) d_Mo_may_162
              · skip
                have hfn : (gpw true (fun k => (mgr V1 si g).testBit k)) (i + 1) = false := (tb_zbt _ (by omega) i (by omega)).symm.trans ((zb_0 _).mp c_120)
                refine z_goto 201 d_Mo_may_123 (by decide) ?_
                refine z_iinc (v := nI (i + 1)) (L' := [(9, _), (8, _), (7, _), (6, _), (5, _), (4, _), (0, _), (1, _), (2, _), (3, _)]) 0 d_Mo_may_201 rfl (nI_1 i) (by decide) rfl ?_
                refine z_goto 106 d_Mo_may_204 (by decide) ?_
                first
                  | exact absurd c_170 c_133
                  | exact absurd c_133 c_170
                  | exact ih_106 (i + 1) (ct + 1) _ _ (by omega) (by omega) (by omega) (hoc.add hfi (fun q => c_170 (congrArg nI q)))
                  | exact ih_106 (i + 1) ct _ _ (by omega) (by omega) (by omega) (hoc.agree hctt (hth.symm.trans c_158))
                  | exact ih_106 (i + 1) ct _ _ (by omega) (by omega) (by omega) (hoc.skip hfn)
        exact key_106 9 0 1 _ _ (by omega) (by omega) (by omega) (ocS.one rfl ht1 rfl rfl)
      · skip
        refine z_aload_n 0 d_Mo_may_45 rfl rfl ?_
        refine z_iconst (v := 2) d_Mo_may_46 (by decide) ?_
        refine z_callV0 (m_Mo_no hs0 hst hM1.mo 2) ym_Mo_no qM_Mo_119 qI_Mo_no qV_Mo_Mo_no zc_Mo hM1.mo d_Mo_may_47 rfl (Nat.le_of_ble_eq_true rfl) ⟨by decide, by decide⟩ ⟨Nat.le_of_ble_eq_true rfl, Nat.le_of_ble_eq_true rfl⟩ ?_
        obtain ⟨V9, hM9, hK9, hF9, hT9⟩ := hM1.putT 2
        refine z_if_le 57 d_Mo_may_50 (by decide) (fun c_50 => ?_) (fun c_50 => absurd (by decide) c_50)
        refine z_iconst (v := 0) d_Mo_may_57 (by decide) ?_
        exact z_zret rfl (by first | rfl | exact zb_nar _) (by first | exact ⟨0, V9, rfl, Or.inr ⟨si, hsi, rfl, Or.inl ⟨Or.inl ((zb_0 _).mp c_32), hT9⟩⟩, hM9, hK1.tr hK9, hF1.tr hF9⟩ | exact ⟨0, V9, rfl, Or.inr ⟨si, hsi, rfl, Or.inl ⟨Or.inr ((zb_0 _).mp c_42), hT9⟩⟩, hM9, hK1.tr hK9, hF1.tr hF9⟩) (by first | decide | omega) (by first | decide | omega) d_Mo_may_58
  · skip
    refine z_aload_n 0 d_Mo_may_13 rfl rfl ?_
    refine z_iconst (v := 1) d_Mo_may_14 (by decide) ?_
    refine z_callV0 (m_Mo_no hs0 hst hM1.mo 1) ym_Mo_no qM_Mo_119 qI_Mo_no qV_Mo_Mo_no zc_Mo hM1.mo d_Mo_may_15 rfl (Nat.le_of_ble_eq_true rfl) ⟨by decide, by decide⟩ ⟨Nat.le_of_ble_eq_true rfl, Nat.le_of_ble_eq_true rfl⟩ ?_
    obtain ⟨V9, hM9, hK9, hF9, hT9⟩ := hM1.putT 1
    refine z_if_le 25 d_Mo_may_18 (by decide) (fun c_18 => ?_) (fun c_18 => absurd (by decide) c_18)
    refine z_iconst (v := 0) d_Mo_may_25 (by decide) ?_
    exact z_zret rfl (by first | rfl | exact zb_nar _) (⟨0, V9, rfl, Or.inl ⟨(zb_0 _).mp c_10, hT9⟩, hM9, hK1.tr hK9, hF1.tr hF9⟩) (by first | decide | omega) (by first | decide | omega) d_Mo_may_26
