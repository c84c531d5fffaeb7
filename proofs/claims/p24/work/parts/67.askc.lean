
/-! what is asked, exactly: the class's answer by T, what is thrown by P; the reference's by T -/
def cAs (V : Nat → Nat → Int32) (T P : Int32 → Prop) (kk : Int32) (V' : Nat → Nat → Int32) (v : Int32) : Prop := zKo V V' ∧ ((kk = 0 ∧ T v) ∨ (kk ≠ 0 ∧ P kk))
def mAq (d : zD) (B : Nat → Nat) (nk ns ne ec : Nat) (V : Nat → Nat → Int32) (G : zG) (T : Int32 → Int32 → (Nat → Nat → Int32) → Prop) : Option Value → zG → Prop := fun r G1 => ∃ (v : Int32) (W' : Nat → Nat → Int32), r = some (.int v) ∧ T (W' 0 0) v W' ∧ zM d B W' nk ns ne ec G1 ∧ zKn V W' ∧ mFr B nk ns ne G G1

theorem zall_iff {f : Nat → Bool} : ∀ n, zall f n = true ↔ ∀ k, k < n → f k = true
  | 0 => ⟨fun _ k hk => absurd hk (Nat.not_lt_zero k), fun _ => rfl⟩
  | n + 1 => by
    have ih := zall_iff (f := f) n
    show (zall f n && f n) = true ↔ _
    rw [Bool.and_eq_true, ih]
    constructor
    · rintro ⟨h1, h2⟩ k hk
      by_cases e : k = n
      · subst e; exact h2
      · exact h1 k (by omega)
    · intro h
      exact ⟨fun k hk => h k (by omega), h n (by omega)⟩
/-- point n agrees, or it is one of the first t, or none -/
def roK (inv gv : Nat → Int32) (f : Nat → Bool) (t n : Nat) : Bool := !f n || (decide (zcnt f n < t) || decide (zth inv gv (nI (zsetN (zfs f t) 9)) (nI n) = gv n))
section ZOC
variable {inv gv : Nat → Int32} {iv : Nat → Nat} {f : Nat → Bool} {t : Nat}
theorem zfs_t {n : Nat} (h : f n = true) (h2 : zcnt f n < t) : zfs f t n = true := by unfold zfs; rw [h, decide_eq_true h2]; rfl
theorem zfs_f {n : Nat} (h : f n = false ∨ ¬ zcnt f n < t) : zfs f t n = false := by
  unfold zfs
  rcases h with h | h
  · rw [h, Bool.false_and]
  · rw [decide_eq_false h, Bool.and_false]
theorem zoc_N {ps : Int32} (ht : t < 2 ^ 20) (hps : ∀ k, k < 9 → zbt ps k = f k) : ∀ n, n ≤ 9 → zoc ps (nI t) n = nI (zsetN (zfs f t) n)
  | 0, _ => rfl
  | n + 1, h => by
    have ih := zoc_N ht hps n (by omega)
    have hl := (zset_N (zfs f t) n (by omega)).2
    have p2 : 2 ^ n ≤ 2 ^ 8 := Nat.pow_le_pow_right (by decide) (by omega)
    have hc := zcnt_n (f := f) n
    have e : zbc (nI (zsetN (zfs f t) n)) = nI (min t (zcnt f n)) := by rw [zbc_512 _ (by omega), zpop_cnt _ n (by omega), zfs_cnt]
    have hstep : zsetN (zfs f t) (n + 1) = zsetN (zfs f t) n + (if zfs f t n = true then 2 ^ n else 0) := rfl
    unfold zoc
    rw [ih, e, hps n (by omega)]
    by_cases c : f n = true ∧ zcnt f n < t
    · rw [if_pos ⟨c.1, nI_lt (by omega) (by omega)⟩]
      exact zsN_t (by omega) (zfs_t c.1 c.2)
    · rw [if_neg (fun q => c ⟨q.1, by have := (nI_ltI (by omega) (by omega)).mp q.2; omega⟩)]
      have : zfs f t n = false := zfs_f (by
        cases hf : f n with
        | false => exact Or.inl rfl
        | true => exact Or.inr (fun z => c ⟨hf, z⟩))
      rw [hstep, this]
      rfl
theorem zag_ps {ps set : Int32} (hps : ps = nI (zsetN f 9)) : zag inv gv ps set = ps ↔ ∀ k, k < 9 → f k = true → zth inv gv set (nI k) = gv k := by
  have hl := (zset_N f 9 (by decide)).2
  have hb : ∀ k, k < 9 → zbt ps k = f k := fun k hk => by rw [hps, tb_zbt _ (by omega) k hk, zsN_at f 9 (by decide) k hk, decide_eq_true hk, Bool.true_and]
  have hl2 := (zset_N (zagf inv gv ps set) 9 (by decide)).2
  unfold zag
  rw [(zset_N _ 9 (by decide)).1]
  constructor
  · intro h k hk hf
    have e : zsetN (zagf inv gv ps set) 9 = zsetN f 9 := (nI_eq (by omega) (by omega)).mp (h.trans hps)
    have h1 := zsN_at (zagf inv gv ps set) 9 (by decide) k hk
    rw [e, zsN_at f 9 (by decide) k hk, decide_eq_true hk, Bool.true_and, Bool.true_and, hf] at h1
    unfold zagf at h1
    rw [hb k hk, hf, Bool.true_and] at h1
    exact of_decide_eq_true h1.symm
  · intro h
    rw [hps]
    refine congrArg nI (zsN_congr 9 fun k hk => ?_)
    unfold zagf
    rw [← hps, hb k hk]
    cases hf : f k with
    | false => exact Bool.false_and _
    | true => rw [decide_eq_true (h k hk hf), Bool.and_true]
/-- the class's way: all the points agree with the curve of the first t -/
theorem oc_all (hi : zIv inv iv) (hv : zVv iv) {ps : Int32} (hps : ps = nI (zsetN f 9)) (ht : t < 2 ^ 20) (hg : ∀ k, k < 9 → f k = true → gv k = nI (gv k).toNatClampNeg ∧ (gv k).toNatClampNeg < 97) : decide (zag inv gv ps (zoc ps (nI t) 9) = ps) = zall (roK inv gv f t) 9 := by
  have hl := (zset_N f 9 (by decide)).2
  have hl2 := (zset_N (zfs f t) 9 (by decide)).2
  have hb : ∀ k, k < 9 → zbt ps k = f k := fun k hk => by rw [hps, tb_zbt _ (by omega) k hk, zsN_at f 9 (by decide) k hk, decide_eq_true hk, Bool.true_and]
  have hb2 : ∀ k, k < 9 → zbt (nI (zsetN (zfs f t) 9)) k = zfs f t k := fun k hk => by rw [tb_zbt _ (by omega) k hk, zsN_at _ 9 (by decide) k hk, decide_eq_true hk, Bool.true_and]
  have hsub : ∀ k, zfs f t k = true → f k = true := fun k h => by unfold zfs at h; rw [Bool.and_eq_true] at h; exact h.1
  rw [zoc_N ht hb 9 (Nat.le_refl 9), Bool.eq_iff_iff, decide_eq_true_eq, zag_ps hps, zall_iff]
  constructor
  · intro h k hk
    unfold roK
    cases hf : f k with
    | false => rw [Bool.not_false, Bool.true_or]
    | true => rw [decide_eq_true (h k hk hf), Bool.or_true, Bool.or_true]
  · intro h k hk hf
    have := h k hk
    unfold roK at this
    rw [hf, Bool.not_true, Bool.false_or, Bool.or_eq_true, decide_eq_true_eq, decide_eq_true_eq] at this
    rcases this with c | c
    · exact zth_own hi hv hb2 (fun k hk h1 => hg k hk (hsub k h1)) hk (zfs_t hf c)
    · exact c
/-- the reference's way, between two points -/
def ocS (inv gv : Nat → Int32) (f : Nat → Bool) (t : Nat) (P N : Nat → Int32) (ct m : Nat) : Prop := ct = zcnt (zfs f t) m ∧ (∀ n, n < m → zfs f t n = true → P (zcnt (zfs f t) n) = nI n ∧ N (zcnt (zfs f t) n) = gv n) ∧ zall (roK inv gv f t) m = true
variable {P N : Nat → Int32} {ct m : Nat}
theorem ocS.z : ocS inv gv f t P N 0 0 := ⟨rfl, fun n hn => absurd hn (Nat.not_lt_zero n), rfl⟩
theorem ocS.t_le (h : ocS inv gv f t P N ct m) (hc : ct = t) : t ≤ zcnt f m := by
  have := h.1
  rw [zfs_cnt] at this
  omega
theorem ocS.t_lt (h : ocS inv gv f t P N ct m) (hc : ct ≠ t) : zcnt f m < t := by
  have := h.1
  rw [zfs_cnt] at this
  omega
theorem ocS.keep (h : ocS inv gv f t P N ct m) (hz : zfs f t m = false) (hr : roK inv gv f t m = true) : ocS inv gv f t P N ct (m + 1) := by
  obtain ⟨h1, h2, h3⟩ := h
  refine ⟨by rw [zcnt_skip hz]; exact h1, fun n hn hf => h2 n ?_ hf, ?_⟩
  · have : n ≠ m := fun e => by rw [e, hz] at hf; cases hf
    omega
  · show (zall (roK inv gv f t) m && roK inv gv f t m) = true
    rw [h3, hr]; rfl
theorem ocS.skip (h : ocS inv gv f t P N ct m) (hf : f m = false) : ocS inv gv f t P N ct (m + 1) :=
  h.keep (zfs_f (Or.inl hf)) (by unfold roK; rw [hf, Bool.not_false, Bool.true_or])
theorem ocS.agree (h : ocS inv gv f t P N ct m) (hc : ct = t) (ha : zth inv gv (nI (zsetN (zfs f t) 9)) (nI m) = gv m) : ocS inv gv f t P N ct (m + 1) :=
  h.keep (zfs_f (Or.inr (Nat.not_lt.mpr (h.t_le hc)))) (by unfold roK; rw [decide_eq_true ha, Bool.or_true, Bool.or_true])
theorem ocS.add (h : ocS inv gv f t P N ct m) (hf : f m = true) (hc : ct ≠ t) : ocS inv gv f t (upd P ct (nI m)) (upd N ct (gv m)) (ct + 1) (m + 1) := by
  have hlt := h.t_lt hc
  have hz := zfs_t hf hlt
  obtain ⟨h1, h2, h3⟩ := h
  refine ⟨by rw [zcnt_step hz, h1], fun n hn hfn => ?_, ?_⟩
  · by_cases e : n = m
    · subst e
      rw [← h1, pk_us, pk_us]
      exact ⟨rfl, rfl⟩
    · have : zcnt (zfs f t) n ≠ ct := fun q => e ((zcnt_inj (f := zfs f t) hfn hz).mp (q.trans h1))
      rw [pk_un this, pk_un this]
      exact h2 n (by omega) hfn
  · show (zall (roK inv gv f t) m && roK inv gv f t m) = true
    rw [h3]
    unfold roK
    rw [decide_eq_true hlt, Bool.true_or, Bool.or_true]
    rfl
theorem ocS.fail (h : ocS inv gv f t P N ct m) (hf : f m = true) (hc : ct = t) (hm : m < 9) (ha : ¬ zth inv gv (nI (zsetN (zfs f t) 9)) (nI m) = gv m) : zall (roK inv gv f t) 9 = false := by
  refine zall_no (i := m) ?_ 9 hm
  unfold roK
  rw [hf, decide_eq_false ha, decide_eq_false (Nat.not_lt.mpr (h.t_le hc))]
  rfl
theorem ocS.th (h : ocS inv gv f t P N ct m) (hm : m ≤ 9) (hi : zIv inv iv) {g : Nat → Nat} (hg : ∀ k, k < 9 → f k = true → gv k = nI (g k) ∧ g k < 97) (hc : ct = t) {x : Nat} (hx : x < 97) : zr97 (zmO inv P N (nI x) ct ct) = zth inv gv (nI (zsetN (zfs f t) 9)) (nI x) := by
  have hle := h.t_le hc
  have hl2 := (zset_N (zfs f t) 9 (by decide)).2
  have hb2 : ∀ k, k < 9 → zbt (nI (zsetN (zfs f t) 9)) k = zfs f t k := fun k hk => by rw [tb_zbt _ (by omega) k hk, zsN_at _ 9 (by decide) k hk, decide_eq_true hk, Bool.true_and]
  have hsub : ∀ k, zfs f t k = true → f k = true ∧ zcnt f k < t := fun k h => by unfold zfs at h; rw [Bool.and_eq_true, decide_eq_true_eq] at h; exact h
  have h9 : zcnt (zfs f t) 9 = ct := by
    have := zcnt_le (f := f) 9 hm
    rw [zfs_cnt]
    omega
  have key := zm_th (b := zfs f t) (gv := gv) (pt := P) (nb := N) (g := g) hi hb2 (fun k hk h1 => hg k hk (hsub k h1).1) hx (fun n hn h1 => h.2.1 n (by
    refine Nat.lt_of_not_le fun q => ?_
    have h3 := zcnt_le (f := f) n q
    have h4 := (hsub n h1).2
    omega) h1)
  rw [h9] at key
  exact key
end ZOC
/-- point 0 has a number of its own -/
def gvw (w : Int32) (h : Nat → Int32) : Nat → Int32
  | 0 => w
  | k + 1 => h k
def gpw (b : Bool) (F : Nat → Bool) : Nat → Bool
  | 0 => b
  | k + 1 => F k
theorem gpw_N (b : Bool) (F : Nat → Bool) : ∀ n, zsetN (gpw b F) (n + 1) = 2 * zsetN F n + (if b = true then 1 else 0)
  | 0 => by
    show 0 + (if b = true then 2 ^ 0 else 0) = 2 * 0 + (if b = true then 1 else 0)
    rfl
  | n + 1 => by
    have ih := gpw_N b F n
    show zsetN (gpw b F) (n + 1) + (if F n then 2 ^ (n + 1) else 0) = 2 * (zsetN F n + (if F n then 2 ^ n else 0)) + _
    rw [ih, Nat.pow_succ]
    by_cases hf : F n = true
    · rw [if_pos hf, if_pos hf]; omega
    · rw [if_neg hf, if_neg hf]
      omega
theorem roK_congr {inv inw gv gw : Nat → Int32} {f g : Nat → Bool} {t : Nat} (he : ∀ j, j < 97 → inv j = inw j) (hf : ∀ k, k < 9 → f k = g k) (hg : ∀ k, k < 9 → g k = true → gv k = gw k) : zall (roK inv gv f t) 9 = zall (roK inw gw g t) 9 := by
  have hfs : ∀ k, k < 9 → zfs f t k = zfs g t k := fun k hk => by
    unfold zfs
    rw [hf k hk, zcnt_congr (g := g) k (fun j hj => hf j (by omega))]
  have es : zsetN (zfs f t) 9 = zsetN (zfs g t) 9 := zsN_congr 9 hfs
  have hl2 := (zset_N (zfs g t) 9 (by decide)).2
  rw [Bool.eq_iff_iff, zall_iff, zall_iff]
  have key : ∀ k, k < 9 → roK inv gv f t k = roK inw gw g t k := fun k hk => by
    unfold roK
    rw [hf k hk, zcnt_congr (g := g) k (fun j hj => hf j (by omega)), es, zth_inv he]
    cases hgk : g k with
    | false => rw [Bool.not_false, Bool.true_or, Bool.true_or]
    | true =>
      rw [hg k hk hgk, show zth inw gv (nI (zsetN (zfs g t) 9)) (nI k) = zth inw gw (nI (zsetN (zfs g t) 9)) (nI k) from zthO_congr (fun j hj h1 => by
        rw [tb_zbt _ (by omega) j hj, zsN_at _ 9 (by decide) j hj, decide_eq_true hj, Bool.true_and] at h1
        unfold zfs at h1
        rw [Bool.and_eq_true] at h1
        exact hg j hj h1.1) 9 (Nat.le_refl 9)]
  exact ⟨fun h k hk => by rw [← key k hk]; exact h k hk, fun h k hk => by rw [key k hk]; exact h k hk⟩

/-- a secret's shares are of one curve, or it is no matter: class -/
def ocV (V : Nat → Nat → Int32) (si : Nat) : Bool := zall (roK (V 13) (gvs (V (300 + si))) (zgp (zcur (V (400 + si)) (V (200 + si) 3))) (V (200 + si) 0).toNatClampNeg) 9
def sSnd (V : Nat → Nat → Int32) (si : Nat) : Bool := decide (V (200 + si) 5 ≠ 0) || ocV V si
/-- its numbers are as they must be -/
def sdOk (V : Nat → Nat → Int32) (si : Nat) : Prop := ∀ k, k < 8 → V (400 + si) k ≠ -1 → ∃ s, s < 97 ∧ V (300 + si) k = nI s ∧ V (400 + si) k ≤ V (200 + si) 3
theorem sdOk.k {V V' : Nat → Nat → Int32} (h : zKo V V') {si : Nat} (hs : si < 6) (hd : sdOk V si) : sdOk V' si := by
  unfold sdOk
  rw [h.row (r := 200 + si) (by omega) (by omega), h.row (r := 300 + si) (by omega) (by omega), h.row (r := 400 + si) (by omega) (by omega)]
  exact hd
theorem sSnd_k {V V' : Nat → Nat → Int32} (h : zKo V V') {si : Nat} (hs : si < 6) : sSnd V' si = sSnd V si := by
  unfold sSnd ocV
  rw [h.row (r := 200 + si) (by omega) (by omega), h.row (r := 300 + si) (by omega) (by omega), h.row (r := 400 + si) (by omega) (by omega), h.row (r := 13) (by decide) (by decide)]
/-- points laid for the first i -/
def zGx (F : Nat → Bool) (h : Nat → Int32) (o : Int32) (V V' : Nat → Nat → Int32) (i : Nat) : Prop := V' 12 = z4 o (zset (zgp F) (i + 1)) 0 0 ∧ (∀ k, k < i → F k = true → V' 14 (k + 1) = h k) ∧ zKo V V'
section ZGX
variable {V V2 : Nat → Nat → Int32} {F : Nat → Bool} {h : Nat → Int32} {o : Int32} {i : Nat}
theorem zGx.z : zGx F h o V (rset V 12 (z4 o 0 0 0)) 0 := ⟨rset_s, fun k hk => absurd hk (Nat.not_lt_zero _), zKo.off (Or.inl rfl)⟩
theorem zGx.skip (hg : zGx F h o V V2 i) (hf : F i = false) : zGx F h o V V2 (i + 1) := by
  obtain ⟨h1, h2, h3⟩ := hg
  refine ⟨h1.trans ?_, fun k hk hk2 => ?_, h3⟩
  · rw [zset_f' (f := zgp F) (n := i + 1) hf]
  · by_cases e : k = i
    · subst e; rw [hf] at hk2; cases hk2
    · exact h2 k (by omega) hk2
theorem zGx.give (hg : zGx F h o V V2 i) (hf : F i = true) {x : Int32} (hx : x = h i) : zGx F h o V (rset (rset V2 14 (upd (V2 14) (i + 1) x)) 12 (z4 (V2 12 0) (V2 12 1 ||| (1 <<< (nI (i + 1) &&& 31))) (V2 12 2) (V2 12 3))) (i + 1) := by
  obtain ⟨h1, h2, h3⟩ := hg
  refine ⟨?_, fun k hk hk2 => ?_, (h3.tr (zKo.off (Or.inr rfl))).tr (zKo.off (Or.inl rfl))⟩
  · rw [rset_s, h1]
    show z4 o (zset (zgp F) (i + 1) ||| (1 <<< (nI (i + 1) &&& 31))) 0 0 = _
    rw [zset_t' (f := zgp F) (n := i + 1) hf]
  · rw [rset_n (by decide), rset_s]
    by_cases e : k = i
    · subst e; rw [pk_us]; exact hx
    · rw [pk_un (by omega)]
      exact h2 k (by omega) hk2
/-- laid for all: the class's answer -/
theorem zGx.oc {t : Nat} {iv : Nat → Nat} (hg : zGx F (fun k => zfm (h k)) (nI t) V V2 8) (ht : t < 2 ^ 20) (hi : zIv (V 13) iv) (hv : zVv iv) (hs : ∀ k, k < 8 → F k = true → ∃ s, s < 97 ∧ h k = nI s) : decide (zag (V2 13) (V2 14) (V2 12 1) (zoc (V2 12 1) (V2 12 0) 9) = V2 12 1) = zall (roK (V 13) (gvs h) (zgp F) t) 9 := by
  obtain ⟨g1, g2, g3⟩ := hg
  have f0 : V2 12 0 = nI t := by rw [g1]; rfl
  have f1 : V2 12 1 = nI (zsetN (zgp F) 9) := by
    rw [g1]
    exact (zset_N (zgp F) 9 (by decide)).1
  have ei : V2 13 = V 13 := g3.row (by decide) (by decide)
  have hgv : ∀ k, k < 9 → zgp F k = true → V2 14 k = gvs h k := fun k hk h1 => by
    match k, hk, h1 with
    | 0, _, h1 => cases h1
    | k + 1, hk, h1 =>
      obtain ⟨s, hs9, e⟩ := hs k (by omega) h1
      rw [g2 k (by omega) h1]
      show zfm (h k) = h k
      rw [e, zfm_s (by omega), Nat.mod_eq_of_lt hs9]
  have hgs : ∀ k, k < 9 → zgp F k = true → V2 14 k = nI (V2 14 k).toNatClampNeg ∧ (V2 14 k).toNatClampNeg < 97 := fun k hk h1 => by
    rw [hgv k hk h1]
    match k, hk, h1 with
    | 0, _, h1 => cases h1
    | k + 1, hk, h1 =>
      obtain ⟨s, hs9, e⟩ := hs k (by omega) h1
      show h k = nI (h k).toNatClampNeg ∧ (h k).toNatClampNeg < 97
      rw [e, nI_clamp (by omega)]
      exact ⟨rfl, hs9⟩
  rw [f0, ei, oc_all hi hv f1 ht hgs]
  exact roK_congr (fun _ _ => rfl) (fun _ _ => rfl) hgv
end ZGX

theorem sSnd_0 {x y : Int32} {o : Bool} (c : ¬ x = 0) (e : x = y) : some (Value.int 1) = some (Value.int (zb (decide (y ≠ 0) || o))) := by
  subst e
  rw [decide_eq_true (p := x ≠ 0) c, Bool.true_or]
  rfl
theorem sSnd_1 {x y : Int32} {o q : Bool} (c : x = 0) (c2 : ¬ zb q = 0) (e : x = y) (e2 : q = o) : some (Value.int 1) = some (Value.int (zb (decide (y ≠ 0) || o))) := by
  subst e e2
  rw [(zb_n0 _).mp c2, Bool.or_true]
  rfl
theorem sSnd_2 {x y : Int32} {o q : Bool} (c : x = 0) (c2 : zb q = 0) (e : x = y) (e2 : q = o) : some (Value.int 0) = some (Value.int (zb (decide (y ≠ 0) || o))) := by
  subst e e2
  rw [(zb_0 _).mp c2, Bool.or_false, decide_eq_false (p := x ≠ 0) (fun z => z c)]
  rfl

theorem zall_s {f : Nat → Bool} {n : Nat} (h : zall f n = true) (h2 : f n = true) : zall f (n + 1) = true := by
  show (zall f n && f n) = true
  rw [h, h2]; rfl

set_option maxHeartbeats 4000000 in
set_option maxRecDepth 100000 in
theorem m_Tb_isSecretSoundE {g0 : State} {d : zD} {l : Launch} {a0 : Array Value} (hs0 : zS0 d a0 g0) (hst : l.stackTraces = false) {G : zG} {A : Nat → Nat} {D : Nat → UInt64} {V : Nat → Nat → Int32} {nk ns : Nat} (hT : zT d A D V nk ns G) {si : Nat} (hsi : si < ns) (hsd : sdOk V si) {iv : Nat → Nat} (hiv : zIv (V 13) iv) (hvv : zVv iv) : zMet g0 d l y_Tb_isSecretSound c_Tb_isSecretSound 3 ((Option.some Jvm.ClassFile.FieldType.boolean)) 5 0 0 [.ref (A 0), .ref (A (200 + si))] (G) (zTu d A nk ns V G (fun r => r = some (.int (zb (sSnd V si))))) (zNo) := by
  have hG_Tb := hT.tb
  have hnk : nk ≤ 8 := hT.2.1
  have hns : ns ≤ 6 := hT.2.2.1
  obtain ⟨t, ht1, ht4, ht⟩ := hT.tn hsi
  refine z_entry hs0 hst (by decide) (Nat.le_of_ble_eq_true rfl) (fun p e s m args below meth c => ?_)
  refine z_aload_n 0 d_Tb_isSecretSound_0 rfl rfl ?_
  refine z_get zc_Tb 4 (by decide) qF_Tb_36 hT.tb rfl d_Tb_isSecretSound_1 ?_
  refine z_aload_n 1 d_Tb_isSecretSound_4 rfl rfl ?_
  refine z_get zc_Se 0 (by decide) qF_Tb_147 (hT.se hsi).1 rfl d_Tb_isSecretSound_5 ?_
  refine z_callVp0 (m_Gr_begin hs0 hst hT.gA _) ym_Gr_begin qM_Tb_351 qI_Gr_begin qV_Gr_Gr_begin zc_Gr hT.gr d_Tb_isSecretSound_8 rfl (Nat.le_of_ble_eq_true rfl) ⟨Nat.zero_le _, Nat.zero_le _⟩ ⟨Nat.le_of_ble_eq_true rfl, Nat.le_of_ble_eq_true rfl⟩ (fun r_8 G_8 hp_8 => ?_)
  obtain ⟨hr_8, hg_8⟩ := hp_8
  obtain rfl : r_8 = none := hr_8
  obtain ⟨hT1, hF1⟩ := hT.putgE (V (200 + si) 0) 0 0 (p := 0) ⟨0, by decide, nI_0.symm⟩
  rw [← hg_8] at hT1 hF1
  rw [ht] at hT1
  refine z_iconst (v := (nI 0)) d_Tb_isSecretSound_11 (by decide) ?_
  refine z_istore_n (L' := [(2, _), (0, _), (1, _)]) d_Tb_isSecretSound_12 rfl (by decide) rfl ?_
  have key_13 : ∀ (n : Nat) (i : Nat) (G2 : zG) (V2 : Nat → Nat → Int32), 8 - i < n → (i ≤ 8) → (zT d A D V2 nk ns G2) → (zGx (zcur (V (400 + si)) (V (200 + si) 3)) (fun k => zfm (V (300 + si) k)) (nI t) V V2 i) → (tFr A nk ns G G2) → Z g0 d y_Tb_isSecretSound c_Tb_isSecretSound 3 ((Option.some Jvm.ClassFile.FieldType.boolean)) [] p l e (zR 5 0 0) s m args below meth c (vx_MQ below (zQc g0 d (zTu d A nk ns V G (fun r => r = some (.int (zb (sSnd V si)))))) (zXc g0 d (zNo)) args s 0 0 (zA g0)) 0 0 (G2) [(2, .int (nI i)), (0, .ref (A 0)), (1, .ref (A (200 + si)))] [] 13 := by
    intro n
    induction n with
    | zero => intro i G2 V2 h0; exact absurd h0 (Nat.not_lt_zero _)
    | succ n ih_13 =>
      intro i G2 V2 hm_13 hi hT2 hK2 hF2
      refine z_iload_n 0 d_Tb_isSecretSound_13 rfl rfl ?_
      refine z_bipush (v := (nI 8)) d_Tb_isSecretSound_14 (by decide) ?_
      refine z_icmp_ge 82 d_Tb_isSecretSound_16 (by decide) (fun c_16 => ?_) (fun c_16 => ?_)
      · skip
        obtain rfl : i = 8 := by
          have := (nI_leI (a := 8) (b := i) (by decide) (by omega)).mp c_16
          omega
        have hoc := zGx.oc (h := V (300 + si)) hK2 (by omega) hiv hvv (fun k hk hf => by
          unfold zcur at hf
          rw [Bool.and_eq_true, decide_eq_true_eq] at hf
          obtain ⟨s, hs, e, -⟩ := hsd k hk hf.1
          exact ⟨s, hs, e⟩)
        have hoV : zall (roK (V 13) (gvs (V (300 + si))) (zgp (zcur (V (400 + si)) (V (200 + si) 3))) t) 9 = ocV V si := by
          unfold ocV
          rw [ht, nI_clamp (by omega)]
        have e86 : V2 (200 + si) 5 = V (200 + si) 5 := by rw [hK2.2.2.row (r := 200 + si) (by omega) (by omega)]
        refine z_aload_n 2 d_Tb_isSecretSound_82 rfl rfl ?_
        refine z_get zc_Se 7 (by decide) qF_Tb_206 (hT2.se hsi).1 rfl d_Tb_isSecretSound_83 ?_
        refine z_if_ne 99 d_Tb_isSecretSound_86 (by decide) (fun c_86 => ?_) (fun c_86 => ?_)
        · skip
          refine z_iconst (v := 1) d_Tb_isSecretSound_99 (by decide) ?_
          refine z_goto 104 d_Tb_isSecretSound_100 (by decide) ?_
          exact z_zret rfl (by first | rfl | exact zb_nar _) (⟨by unfold sSnd; first | exact sSnd_0 c_86 e86 | exact sSnd_1 c_86 c_96 e86 (hoc.trans hoV) | exact sSnd_2 c_86 c_96 e86 (hoc.trans hoV), D, V2, hT2, hK2.2.2, hF2⟩) (by first | decide | omega) (by first | decide | omega) d_Tb_isSecretSound_104
        · skip
          refine z_aload_n 1 d_Tb_isSecretSound_89 rfl rfl ?_
          refine z_get zc_Tb 4 (by decide) qF_Tb_36 hT2.tb rfl d_Tb_isSecretSound_90 ?_
          refine z_callV0 (m_Gr_isOnOneCurve hs0 hst hT2.gA) ym_Gr_isOnOneCurve qM_Tb_291 qI_Gr_isOnOneCurve qV_Gr_Gr_isOnOneCurve zc_Gr hT2.gr d_Tb_isSecretSound_93 rfl (Nat.le_of_ble_eq_true rfl) ⟨Nat.zero_le _, Nat.zero_le _⟩ ⟨Nat.le_of_ble_eq_true rfl, Nat.le_of_ble_eq_true rfl⟩ ?_
          refine z_if_eq 103 d_Tb_isSecretSound_96 (by decide) (fun c_96 => ?_) (fun c_96 => ?_)
          · skip
            refine z_iconst (v := 0) d_Tb_isSecretSound_103 (by decide) ?_
            exact z_zret rfl (by first | rfl | exact zb_nar _) (⟨by unfold sSnd; first | exact sSnd_0 c_86 e86 | exact sSnd_1 c_86 c_96 e86 (hoc.trans hoV) | exact sSnd_2 c_86 c_96 e86 (hoc.trans hoV), D, V2, hT2, hK2.2.2, hF2⟩) (by first | decide | omega) (by first | decide | omega) d_Tb_isSecretSound_104
          · skip
            refine z_iconst (v := 1) d_Tb_isSecretSound_99 (by decide) ?_
            refine z_goto 104 d_Tb_isSecretSound_100 (by decide) ?_
            exact z_zret rfl (by first | rfl | exact zb_nar _) (⟨by unfold sSnd; first | exact sSnd_0 c_86 e86 | exact sSnd_1 c_86 c_96 e86 (hoc.trans hoV) | exact sSnd_2 c_86 c_96 e86 (hoc.trans hoV), D, V2, hT2, hK2.2.2, hF2⟩) (by first | decide | omega) (by first | decide | omega) d_Tb_isSecretSound_104
      · skip
        have hi6 : i < 8 := Nat.lt_of_not_le fun q => c_16 (nI_le (a := 8) (b := i) q (by omega))
        refine z_aload_n 2 d_Tb_isSecretSound_19 rfl rfl ?_
        refine z_iload_n 0 d_Tb_isSecretSound_20 rfl rfl ?_
        refine z_callV0 (m_Se_has hs0 hst (hT2.se hsi) hi6) ym_Se_has qM_Tb_270 qI_Se_has qV_Se_Se_has zc_Se (hT2.se hsi).1 d_Tb_isSecretSound_21 rfl (Nat.le_of_ble_eq_true rfl) ⟨Nat.zero_le _, Nat.zero_le _⟩ ⟨Nat.le_of_ble_eq_true rfl, Nat.le_of_ble_eq_true rfl⟩ ?_
        refine z_if_eq 52 d_Tb_isSecretSound_24 (by decide) (fun c_24 => ?_) (fun c_24 => ?_)
        · skip
          refine z_aload_n 2 d_Tb_isSecretSound_52 rfl rfl ?_
          refine z_iload_n 0 d_Tb_isSecretSound_53 rfl rfl ?_
          refine z_callV0 (m_Se_isCurrent hs0 hst (hT2.se hsi) hi6) ym_Se_isCurrent qM_Tb_179 qI_Se_isCurrent qV_Se_Se_isCurrent zc_Se (hT2.se hsi).1 d_Tb_isSecretSound_54 rfl (Nat.le_of_ble_eq_true rfl) ⟨Nat.zero_le _, Nat.zero_le _⟩ ⟨Nat.le_of_ble_eq_true rfl, Nat.le_of_ble_eq_true rfl⟩ ?_
          refine z_if_eq 76 d_Tb_isSecretSound_57 (by decide) (fun c_57 => ?_) (fun c_57 => ?_)
          · skip
            have hf2 : (zcur (V (400 + si)) (V (200 + si) 3)) i = false := by rw [← hK2.2.2.row (r := 400 + si) (by omega) (by omega), ← hK2.2.2.row (r := 200 + si) (by omega) (by omega)]; exact (zb_0 _).mp c_57
            refine z_iinc (v := nI (i + 1)) (L' := [(2, _), (0, _), (1, _)]) 0 d_Tb_isSecretSound_76 rfl (nI_1 i) (by decide) rfl ?_
            refine z_goto 13 d_Tb_isSecretSound_79 (by decide) ?_
            first
              | exact ih_13 (i + 1) _ _ (by omega) (by omega) hT3 (hK2.give hf3 (by rw [hK2.2.2.row (r := 300 + si) (by omega) (by omega)])) (hF2.tr hF3)
              | exact ih_13 (i + 1) _ _ (by omega) (by omega) hT2 (hK2.skip hf2) hF2
          · skip
            have hf3 : (zcur (V (400 + si)) (V (200 + si) 3)) i = true := by rw [← hK2.2.2.row (r := 400 + si) (by omega) (by omega), ← hK2.2.2.row (r := 200 + si) (by omega) (by omega)]; exact (zb_n0 _).mp c_57
            refine z_aload_n 1 d_Tb_isSecretSound_60 rfl rfl ?_
            refine z_get zc_Tb 4 (by decide) qF_Tb_36 hT2.tb rfl d_Tb_isSecretSound_61 ?_
            refine z_iload_n 0 d_Tb_isSecretSound_64 rfl rfl ?_
            refine z_callS0 (m_Tb_pointOf hs0 hst (nI i)) ym_Tb_pointOf qM_Tb_128 qS_Tb_pointOf d_Tb_isSecretSound_65 rfl (Nat.le_of_ble_eq_true rfl) ⟨Nat.zero_le _, Nat.zero_le _⟩ ⟨Nat.le_of_ble_eq_true rfl, Nat.le_of_ble_eq_true rfl⟩ ?_
            refine z_topv (nI_1 i) ?_
            refine z_aload_n 2 d_Tb_isSecretSound_68 rfl rfl ?_
            refine z_iload_n 0 d_Tb_isSecretSound_69 rfl rfl ?_
            refine z_callV0 (m_Se_shareOf hs0 hst (hT2.se hsi) hi6) ym_Se_shareOf qM_Tb_155 qI_Se_shareOf qV_Se_Se_shareOf zc_Se (hT2.se hsi).1 d_Tb_isSecretSound_70 rfl (Nat.le_of_ble_eq_true rfl) ⟨Nat.zero_le _, Nat.zero_le _⟩ ⟨Nat.le_of_ble_eq_true rfl, Nat.le_of_ble_eq_true rfl⟩ ?_
            refine z_callVp0 (m_Gr_give hs0 hst hT2.gA (show i + 1 < 9 by omega) _) ym_Gr_give qM_Tb_288 qI_Gr_give qV_Gr_Gr_give zc_Gr hT2.gr d_Tb_isSecretSound_73 rfl (Nat.le_of_ble_eq_true rfl) ⟨Nat.zero_le _, Nat.zero_le _⟩ ⟨Nat.le_of_ble_eq_true rfl, Nat.le_of_ble_eq_true rfl⟩ (fun r_73 G_73 hp_73 => ?_)
            obtain ⟨hr_73, hg_73⟩ := hp_73
            obtain rfl : r_73 = none := hr_73
            obtain ⟨hT3, hF3⟩ := hT2.giveE (k := i + 1) (by omega) (V2 (300 + si) i)
            rw [← hg_73] at hT3 hF3
            refine z_iinc (v := nI (i + 1)) (L' := [(2, _), (0, _), (1, _)]) 0 d_Tb_isSecretSound_76 rfl (nI_1 i) (by decide) rfl ?_
            refine z_goto 13 d_Tb_isSecretSound_79 (by decide) ?_
            first
              | exact ih_13 (i + 1) _ _ (by omega) (by omega) hT3 (hK2.give hf3 (by rw [hK2.2.2.row (r := 300 + si) (by omega) (by omega)])) (hF2.tr hF3)
              | exact ih_13 (i + 1) _ _ (by omega) (by omega) hT2 (hK2.skip hf2) hF2
        · skip
          have hq24 := of_decide_eq_true ((zb_n0 _).mp c_24)
          rw [hK2.2.2.row (r := 400 + si) (by omega) (by omega)] at hq24
          obtain ⟨s9, hs97, es9, el9⟩ := hsd i (by omega) hq24
          refine z_aload_n 2 d_Tb_isSecretSound_27 rfl rfl ?_
          refine z_iload_n 0 d_Tb_isSecretSound_28 rfl rfl ?_
          refine z_callV0 (m_Se_shareOf hs0 hst (hT2.se hsi) hi6) ym_Se_shareOf qM_Tb_155 qI_Se_shareOf qV_Se_Se_shareOf zc_Se (hT2.se hsi).1 d_Tb_isSecretSound_29 rfl (Nat.le_of_ble_eq_true rfl) ⟨Nat.zero_le _, Nat.zero_le _⟩ ⟨Nat.le_of_ble_eq_true rfl, Nat.le_of_ble_eq_true rfl⟩ ?_
          refine z_callS0 (m_Tb_isNumber hs0 hst _) ym_Tb_isNumber qM_Tb_90 qS_Tb_isNumber d_Tb_isSecretSound_32 rfl (Nat.le_of_ble_eq_true rfl) ⟨Nat.zero_le _, Nat.zero_le _⟩ ⟨Nat.le_of_ble_eq_true rfl, Nat.le_of_ble_eq_true rfl⟩ ?_
          refine z_if_eq 50 d_Tb_isSecretSound_35 (by decide) (fun c_35 => absurd ((zb_0 _).mp c_35) (by rw [hK2.2.2.row (r := 300 + si) (by omega) (by omega), es9, show zin (nI s9) 0 96 = true from zin_ok (n := 96) (by omega) (by decide)]; decide)) (fun c_35 => ?_)
          refine z_aload_n 2 d_Tb_isSecretSound_38 rfl rfl ?_
          refine z_iload_n 0 d_Tb_isSecretSound_39 rfl rfl ?_
          refine z_callV0 (m_Se_epochOf hs0 hst (hT2.se hsi) hi6) ym_Se_epochOf qM_Tb_395 qI_Se_epochOf qV_Se_Se_epochOf zc_Se (hT2.se hsi).1 d_Tb_isSecretSound_40 rfl (Nat.le_of_ble_eq_true rfl) ⟨Nat.zero_le _, Nat.zero_le _⟩ ⟨Nat.le_of_ble_eq_true rfl, Nat.le_of_ble_eq_true rfl⟩ ?_
          refine z_aload_n 2 d_Tb_isSecretSound_43 rfl rfl ?_
          refine z_get zc_Se 5 (by decide) qF_Tb_152 (hT2.se hsi).1 rfl d_Tb_isSecretSound_44 ?_
          refine z_icmp_le 52 d_Tb_isSecretSound_47 (by decide) (fun c_47 => ?_) (fun c_47 => absurd (show V2 (400 + si) i ≤ V2 (200 + si) 3 from by rw [hK2.2.2.row (r := 400 + si) (by omega) (by omega), hK2.2.2.row (r := 200 + si) (by omega) (by omega)]; exact el9) c_47)
          refine z_aload_n 2 d_Tb_isSecretSound_52 rfl rfl ?_
          refine z_iload_n 0 d_Tb_isSecretSound_53 rfl rfl ?_
          refine z_callV0 (m_Se_isCurrent hs0 hst (hT2.se hsi) hi6) ym_Se_isCurrent qM_Tb_179 qI_Se_isCurrent qV_Se_Se_isCurrent zc_Se (hT2.se hsi).1 d_Tb_isSecretSound_54 rfl (Nat.le_of_ble_eq_true rfl) ⟨Nat.zero_le _, Nat.zero_le _⟩ ⟨Nat.le_of_ble_eq_true rfl, Nat.le_of_ble_eq_true rfl⟩ ?_
          refine z_if_eq 76 d_Tb_isSecretSound_57 (by decide) (fun c_57 => ?_) (fun c_57 => ?_)
          · skip
            have hf2 : (zcur (V (400 + si)) (V (200 + si) 3)) i = false := by rw [← hK2.2.2.row (r := 400 + si) (by omega) (by omega), ← hK2.2.2.row (r := 200 + si) (by omega) (by omega)]; exact (zb_0 _).mp c_57
            refine z_iinc (v := nI (i + 1)) (L' := [(2, _), (0, _), (1, _)]) 0 d_Tb_isSecretSound_76 rfl (nI_1 i) (by decide) rfl ?_
            refine z_goto 13 d_Tb_isSecretSound_79 (by decide) ?_
            first
              | exact ih_13 (i + 1) _ _ (by omega) (by omega) hT3 (hK2.give hf3 (by rw [hK2.2.2.row (r := 300 + si) (by omega) (by omega)])) (hF2.tr hF3)
              | exact ih_13 (i + 1) _ _ (by omega) (by omega) hT2 (hK2.skip hf2) hF2
          · skip
            have hf3 : (zcur (V (400 + si)) (V (200 + si) 3)) i = true := by rw [← hK2.2.2.row (r := 400 + si) (by omega) (by omega), ← hK2.2.2.row (r := 200 + si) (by omega) (by omega)]; exact (zb_n0 _).mp c_57
            refine z_aload_n 1 d_Tb_isSecretSound_60 rfl rfl ?_
            refine z_get zc_Tb 4 (by decide) qF_Tb_36 hT2.tb rfl d_Tb_isSecretSound_61 ?_
            refine z_iload_n 0 d_Tb_isSecretSound_64 rfl rfl ?_
            refine z_callS0 (m_Tb_pointOf hs0 hst (nI i)) ym_Tb_pointOf qM_Tb_128 qS_Tb_pointOf d_Tb_isSecretSound_65 rfl (Nat.le_of_ble_eq_true rfl) ⟨Nat.zero_le _, Nat.zero_le _⟩ ⟨Nat.le_of_ble_eq_true rfl, Nat.le_of_ble_eq_true rfl⟩ ?_
            refine z_topv (nI_1 i) ?_
            refine z_aload_n 2 d_Tb_isSecretSound_68 rfl rfl ?_
            refine z_iload_n 0 d_Tb_isSecretSound_69 rfl rfl ?_
            refine z_callV0 (m_Se_shareOf hs0 hst (hT2.se hsi) hi6) ym_Se_shareOf qM_Tb_155 qI_Se_shareOf qV_Se_Se_shareOf zc_Se (hT2.se hsi).1 d_Tb_isSecretSound_70 rfl (Nat.le_of_ble_eq_true rfl) ⟨Nat.zero_le _, Nat.zero_le _⟩ ⟨Nat.le_of_ble_eq_true rfl, Nat.le_of_ble_eq_true rfl⟩ ?_
            refine z_callVp0 (m_Gr_give hs0 hst hT2.gA (show i + 1 < 9 by omega) _) ym_Gr_give qM_Tb_288 qI_Gr_give qV_Gr_Gr_give zc_Gr hT2.gr d_Tb_isSecretSound_73 rfl (Nat.le_of_ble_eq_true rfl) ⟨Nat.zero_le _, Nat.zero_le _⟩ ⟨Nat.le_of_ble_eq_true rfl, Nat.le_of_ble_eq_true rfl⟩ (fun r_73 G_73 hp_73 => ?_)
            obtain ⟨hr_73, hg_73⟩ := hp_73
            obtain rfl : r_73 = none := hr_73
            obtain ⟨hT3, hF3⟩ := hT2.giveE (k := i + 1) (by omega) (V2 (300 + si) i)
            rw [← hg_73] at hT3 hF3
            refine z_iinc (v := nI (i + 1)) (L' := [(2, _), (0, _), (1, _)]) 0 d_Tb_isSecretSound_76 rfl (nI_1 i) (by decide) rfl ?_
            refine z_goto 13 d_Tb_isSecretSound_79 (by decide) ?_
            first
              | exact ih_13 (i + 1) _ _ (by omega) (by omega) hT3 (hK2.give hf3 (by rw [hK2.2.2.row (r := 300 + si) (by omega) (by omega)])) (hF2.tr hF3)
              | exact ih_13 (i + 1) _ _ (by omega) (by omega) hT2 (hK2.skip hf2) hF2
  exact key_13 9 0 _ _ (by omega) (by omega) hT1 zGx.z hF1
set_option maxHeartbeats 4000000 in
set_option maxRecDepth 100000 in
theorem m_Tb_isSoundE {g0 : State} {d : zD} {l : Launch} {a0 : Array Value} (hs0 : zS0 d a0 g0) (hst : l.stackTraces = false) {G : zG} {A : Nat → Nat} {D : Nat → UInt64} {V : Nat → Nat → Int32} {nk ns : Nat} (hT : zT d A D V nk ns G) (hsd : ∀ si, si < ns → sdOk V si) {iv : Nat → Nat} (hiv : zIv (V 13) iv) (hvv : zVv iv) (hli : ∀ k, k < nk → ∃ l, l < 97 ∧ V (100 + k) 4 = nI l) : zMet g0 d l y_Tb_isSound c_Tb_isSound 2 ((Option.some Jvm.ClassFile.FieldType.boolean)) 11 0 0 [.ref (A 0)] (G) (zTu d A nk ns V G (fun r => ∃ c9, c9 ≤ 64 ∧ V 5 0 = nI c9 ∧ r = some (.int (zb (zall (sSnd V) ns && zall (zwhf (V 6) (V 7) (V 8) (V 9)) c9))))) (zNo) := by
  have hG_Tb := hT.tb
  have hnk : nk ≤ 8 := hT.2.1
  have hns : ns ≤ 6 := hT.2.2.1
  refine z_entry hs0 hst (by decide) (Nat.le_of_ble_eq_true rfl) (fun p e s m args below meth c => ?_)
  refine z_iconst (v := (nI 0)) d_Tb_isSound_0 (by decide) ?_
  refine z_istore_n (L' := [(1, _), (0, _)]) d_Tb_isSound_1 rfl (by decide) rfl ?_
  have key_2 : ∀ (n : Nat) (i : Nat), nk - i < n → (i ≤ nk) → Z g0 d y_Tb_isSound c_Tb_isSound 2 ((Option.some Jvm.ClassFile.FieldType.boolean)) [] p l e (zR 11 0 0) s m args below meth c (vx_MQ below (zQc g0 d (zTu d A nk ns V G (fun r => ∃ c9, c9 ≤ 64 ∧ V 5 0 = nI c9 ∧ r = some (.int (zb (zall (sSnd V) ns && zall (zwhf (V 6) (V 7) (V 8) (V 9)) c9)))))) (zXc g0 d (zNo)) args s 0 0 (zA g0)) 0 0 (G) [(1, .int (nI i)), (0, .ref (A 0))] [] 2 := by
    intro n
    induction n with
    | zero => intro i h0; exact absurd h0 (Nat.not_lt_zero _)
    | succ n ih_2 =>
      intro i hm_2 hi
      refine z_iload_n 0 d_Tb_isSound_2 rfl rfl ?_
      refine z_aload_n 1 d_Tb_isSound_3 rfl rfl ?_
      refine z_get zc_Tb 0 (by decide) qF_Tb_10 (by first | exact hT2.tb | exact hT.tb) rfl d_Tb_isSound_4 ?_
      refine z_callV0 (m_AL_size hs0 hst hT.kl) ym_AL_size qM_Tb_68 qI_AL_size qV_AL_AL_size zc_AL hT.kl d_Tb_isSound_7 rfl (Nat.le_of_ble_eq_true rfl) ⟨Nat.zero_le _, Nat.zero_le _⟩ ⟨Nat.le_of_ble_eq_true rfl, Nat.le_of_ble_eq_true rfl⟩ ?_
      refine z_icmp_ge 41 d_Tb_isSound_10 (by decide) (fun c_10 => ?_) (fun c_10 => ?_)
      · skip
        refine z_iconst (v := (nI 0)) d_Tb_isSound_41 (by decide) ?_
        refine z_istore_n (L' := [(1, _), (0, _)]) d_Tb_isSound_42 rfl (by decide) rfl ?_
        have key_43 : ∀ (n : Nat) (i : Nat) (G2 : zG) (D2 : Nat → UInt64) (V2 : Nat → Nat → Int32), ns - i < n → (i ≤ ns) → (zT d A D2 V2 nk ns G2) → (zKo V V2) → (tFr A nk ns G G2) → (zall (sSnd V) i = true) → Z g0 d y_Tb_isSound c_Tb_isSound 2 ((Option.some Jvm.ClassFile.FieldType.boolean)) [] p l e (zR 11 0 0) s m args below meth c (vx_MQ below (zQc g0 d (zTu d A nk ns V G (fun r => ∃ c9, c9 ≤ 64 ∧ V 5 0 = nI c9 ∧ r = some (.int (zb (zall (sSnd V) ns && zall (zwhf (V 6) (V 7) (V 8) (V 9)) c9)))))) (zXc g0 d (zNo)) args s 0 0 (zA g0)) 0 0 (G2) [(1, .int (nI i)), (0, .ref (A 0))] [] 43 := by
          intro n
          induction n with
          | zero => intro i G2 D2 V2 h0; exact absurd h0 (Nat.not_lt_zero _)
          | succ n ih_43 =>
            intro i G2 D2 V2 hm_43 hi hT2 hK2 hF2 hall
            refine z_iload_n 0 d_Tb_isSound_43 rfl rfl ?_
            refine z_aload_n 1 d_Tb_isSound_44 rfl rfl ?_
            refine z_get zc_Tb 1 (by decide) qF_Tb_16 (by first | exact hT2.tb | exact hT.tb) rfl d_Tb_isSound_45 ?_
            refine z_callV0 (m_AL_size hs0 hst hT2.sl) ym_AL_size qM_Tb_68 qI_AL_size qV_AL_AL_size zc_AL hT2.sl d_Tb_isSound_48 rfl (Nat.le_of_ble_eq_true rfl) ⟨Nat.zero_le _, Nat.zero_le _⟩ ⟨Nat.le_of_ble_eq_true rfl, Nat.le_of_ble_eq_true rfl⟩ ?_
            refine z_icmp_ge 80 d_Tb_isSound_51 (by decide) (fun c_51 => ?_) (fun c_51 => ?_)
            · skip
              obtain rfl : ns = i := by
                have := (nI_leI (a := ns) (b := i) (by omega) (by omega)).mp c_51
                omega
              obtain ⟨c9, hc9, ec9, hR9⟩ := hT2.rN
              refine z_aload_n 1 d_Tb_isSound_80 rfl rfl ?_
              refine z_get zc_Tb 2 (by decide) qF_Tb_22 (by first | exact hT2.tb | exact hT.tb) rfl d_Tb_isSound_81 ?_
              refine z_callV0 (m_Re_isWhole hs0 hst hR9 hc9) ym_Re_isWhole qM_Tb_311 qI_Re_isWhole qV_Re_Re_isWhole zc_Re hT2.re d_Tb_isSound_84 rfl (Nat.le_of_ble_eq_true rfl) ⟨Nat.zero_le _, Nat.zero_le _⟩ ⟨Nat.le_of_ble_eq_true rfl, Nat.le_of_ble_eq_true rfl⟩ ?_
              exact z_zret rfl (by first | rfl | exact zb_nar _) (⟨⟨c9, hc9, by rw [← hK2.row (r := 5) (by decide) (by decide)]; exact ec9, by rw [hall, Bool.true_and, hK2.row (r := 6) (by decide) (by decide), hK2.row (r := 7) (by decide) (by decide), hK2.row (r := 8) (by decide) (by decide), hK2.row (r := 9) (by decide) (by decide)]⟩, D2, V2, hT2, hK2, hF2⟩) (by first | decide | omega) (by first | decide | omega) d_Tb_isSound_87
            · skip
              have hi6 : i < ns := Nat.lt_of_not_le fun q => c_51 (nI_le q (by omega))
              refine z_aload_n 1 d_Tb_isSound_54 rfl rfl ?_
              refine z_aload_n 1 d_Tb_isSound_55 rfl rfl ?_
              refine z_get zc_Tb 1 (by decide) qF_Tb_16 (by first | exact hT2.tb | exact hT.tb) rfl d_Tb_isSound_56 ?_
              refine z_iload_n 0 d_Tb_isSound_59 rfl rfl ?_
              refine z_callV0 (m_AL_get hs0 hst (hT2.sA hi6) hi6 (if_pos hi6)) ym_AL_get qM_Tb_166 qI_AL_get qV_AL_AL_get zc_AL (hT2.sA hi6).1 d_Tb_isSound_60 rfl (Nat.le_of_ble_eq_true rfl) ⟨Nat.zero_le _, Nat.zero_le _⟩ ⟨Nat.le_of_ble_eq_true rfl, Nat.le_of_ble_eq_true rfl⟩ ?_
              refine z_castS zc_Se qK_Tb_115 (hT2.se hi6).1 d_Tb_isSound_63 ?_
              refine z_callVp0 ((m_Tb_isSecretSoundE hs0 hst hT2 hi6 (sdOk.k hK2 (by omega) (hsd i hi6)) (by rw [hK2.row (r := 13) (by decide) (by decide)]; exact hiv) hvv)) ym_Tb_isSecretSound qM_Tb_307 qI_Tb_isSecretSound qV_Tb_Tb_isSecretSound zc_Tb hT2.tb d_Tb_isSound_66 rfl (Nat.le_of_ble_eq_true rfl) ⟨Nat.zero_le _, Nat.zero_le _⟩ ⟨Nat.le_of_ble_eq_true rfl, Nat.le_of_ble_eq_true rfl⟩ (fun r_66 G_66 hp_66 => ?_)
              obtain ⟨hr_66, D3, V3, hT3, hK3, hF3⟩ := hp_66
              obtain rfl : r_66 = _ := hr_66
              refine z_if_ne 74 d_Tb_isSound_69 (by decide) (fun c_69 => ?_) (fun c_69 => ?_)
              · skip
                refine z_iinc (v := nI (i + 1)) (L' := [(1, _), (0, _)]) 0 d_Tb_isSound_74 rfl (nI_1 i) (by decide) rfl ?_
                refine z_goto 43 d_Tb_isSound_77 (by decide) ?_
                exact ih_43 (i + 1) _ _ _ (by omega) (by omega) hT3 (hK2.tr hK3) (hF2.tr hF3) (zall_s hall ((sSnd_k hK2 (by omega)).symm.trans ((zb_n0 _).mp c_69)))
              · skip
                refine z_iconst (v := 0) d_Tb_isSound_72 (by decide) ?_
                exact z_zret rfl (by first | rfl | exact zb_nar _) (⟨by obtain ⟨c9, hc9, ec9, -⟩ := hT2.rN; exact ⟨c9, hc9, by rw [← hK2.row (r := 5) (by decide) (by decide)]; exact ec9, by rw [zall_no (f := sSnd V) (i := i) ((sSnd_k hK2 (by omega)).symm.trans ((zb_0 _).mp c_69)) ns hi6, Bool.false_and]; rfl⟩, D3, V3, hT3, hK2.tr hK3, hF2.tr hF3⟩) (by first | decide | omega) (by first | decide | omega) d_Tb_isSound_73
        exact key_43 (ns + 1) 0 _ _ _ (by omega) (by omega) hT zKo.rf zFr.rf rfl
      · skip
        have hi6 : i < nk := Nat.lt_of_not_le fun q => c_10 (nI_le q (by omega))
        refine z_aload_n 1 d_Tb_isSound_13 rfl rfl ?_
        refine z_get zc_Tb 0 (by decide) qF_Tb_10 (by first | exact hT2.tb | exact hT.tb) rfl d_Tb_isSound_14 ?_
        refine z_iload_n 0 d_Tb_isSound_17 rfl rfl ?_
        refine z_callV0 (m_AL_get hs0 hst (hT.kA hi6) hi6 (if_pos hi6)) ym_AL_get qM_Tb_166 qI_AL_get qV_AL_AL_get zc_AL (hT.kA hi6).1 d_Tb_isSound_18 rfl (Nat.le_of_ble_eq_true rfl) ⟨Nat.zero_le _, Nat.zero_le _⟩ ⟨Nat.le_of_ble_eq_true rfl, Nat.le_of_ble_eq_true rfl⟩ ?_
        refine z_castS zc_Ke qK_Tb_77 (hT.ke hi6) d_Tb_isSound_21 ?_
        refine z_get zc_Ke 4 (by decide) qF_Tb_96 (hT.ke hi6) rfl d_Tb_isSound_24 ?_
        refine z_callS0 (m_Tb_isNumber hs0 hst _) ym_Tb_isNumber qM_Tb_90 qS_Tb_isNumber d_Tb_isSound_27 rfl (Nat.le_of_ble_eq_true rfl) ⟨Nat.zero_le _, Nat.zero_le _⟩ ⟨Nat.le_of_ble_eq_true rfl, Nat.le_of_ble_eq_true rfl⟩ ?_
        refine z_if_ne 35 d_Tb_isSound_30 (by decide) (fun c_30 => ?_) (fun c_30 => absurd ((zb_0 _).mp c_30) (by obtain ⟨l9, hl9, el9⟩ := hli i hi6; rw [el9, show zin (nI l9) 0 96 = true from zin_ok (n := 96) (by omega) (by decide)]; decide))
        refine z_iinc (v := nI (i + 1)) (L' := [(1, _), (0, _)]) 0 d_Tb_isSound_35 rfl (nI_1 i) (by decide) rfl ?_
        refine z_goto 2 d_Tb_isSound_38 (by decide) ?_
        exact ih_2 (i + 1) (by omega) (by omega)
  exact key_2 (nk + 1) 0 (by omega) (by omega)
