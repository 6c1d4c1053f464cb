/-! only the letters of the text count -/
section A
variable {w : Nat → Int} {b c : Nat → Int} {n : Int}
/-- the texts b and c are the same -/
def Bq (b c : Nat → Int) (n : Int) : Prop := ∀ y : Nat, (y : Int) < n → b y = c y
theorem bAt_q (q : Bq b c n) {k : Int} (hk : 0 ≤ k) : bAt b n k = bAt c n k := by
  unfold bAt
  by_cases z : k < n
  · rw [if_pos z, if_pos z, q _ (by omega)]
  · rw [if_neg z, if_neg z]
theorem skW_q (q : Bq b c n) : ∀ (f : Nat) (p : Int), 0 ≤ p → skW b n f p = skW c n f p
  | 0, _, _ => rfl
  | f + 1, p, h => by
    simp only [skW]
    rw [bAt_q q h, skW_q q f (p + 1) (by omega)]
theorem ltE_q (q : Bq b c n) : ∀ (f : Nat) (p : Int), 0 ≤ p → ltE b n f p = ltE c n f p
  | 0, _, _ => rfl
  | f + 1, p, h => by
    simp only [ltE]
    rw [bAt_q q h, ltE_q q f (p + 1) (by omega)]
theorem dgE_q (q : Bq b c n) {s : Int} : ∀ (f : Nat) (p v : Int), 0 ≤ p → dgE b n s f p v = dgE c n s f p v
  | 0, _, _, _ => rfl
  | f + 1, p, v, h => by
    simp only [dgE]
    rw [bAt_q q h, dgE_q q f (p + 1) _ (by omega)]
theorem skW_0 : ∀ (f : Nat) (p : Int), 0 ≤ p → 0 ≤ skW b n f p
  | 0, _, h => h
  | f + 1, p, h => by
    simp only [skW]
    split
    · exact skW_0 f _ (by omega)
    · exact h
theorem tok_cg (q : Bq b c n) {p : Int} (hp : 0 ≤ p) : tok b n p = tok c n p := by
  unfold tok tkF
  have s0 := skW_0 (b := b) (n := n) (n - p).toNat p hp
  rw [← skW_q q _ _ hp]
  generalize skW b n (n - p).toNat p = s at s0
  rw [bAt_q q s0, ltE_q q _ _ s0, dgE_q q _ _ _ s0]
theorem ltE_le : ∀ (f : Nat) (p : Int), p ≤ n → ltE b n f p ≤ n
  | 0, _, h => h
  | f + 1, p, h => by
    simp only [ltE]
    split
    · next z =>
      have : p < n := Classical.byContradiction (fun y => by have := bAt_n (b := b) (n := n) (k := p) (by omega); omega)
      exact ltE_le f _ (by omega)
    · exact h
/-- a word lies in the text -/
def TN (n : Int) (T : Tk) : Prop := T.2.2.2 = 1 → T.2.1 ≤ n
theorem tok_n {p : Int} : TN n (tok b n p) := by
  unfold TN tok tkF
  generalize skW b n (n - p).toNat p = s
  split
  · exact fun z => absurd z (show ¬ (0 : Int) = 1 by decide)
  · next z0 =>
    split
    · next z1 =>
      have hs : s < n := Classical.byContradiction (fun y => z0 (bAt_n (by omega)))
      exact fun _ => ltE_le _ _ (by omega)
    · split
      · intro z
        have z : (if 3 < (dgE b n s (n - s).toNat s 0).1 - s then (4 : Int) else 2) = 1 := z
        split at z <;> omega
      · intro z
        have z : (if bAt b n s = 59 then (3 : Int) else 4) = 1 := z
        split at z <;> omega
def Tg (n : Int) (s : PS) : Prop := TR s.2.1 ∧ TN n s.2.1
theorem adv_q (q : Bq b c n) {s : PS} (h : Tg n s) : adv b n s = adv c n s := by
  unfold adv
  rw [tok_cg q (by have := h.1; unfold TR at this; omega)]
theorem adv_g (h7 : n ≤ 700) {s : PS} (h : Tg n s) : Tg n (adv b n s) := ⟨tok_r h7 (by have := h.1; unfold TR at this; omega), tok_n⟩
theorem eqG_q (q : Bq b c n) {s : Int} {l : List Int} (hs : 0 ≤ s) : ∀ (f : Nat) (k : Int), 0 ≤ k → s + k + f ≤ n → eqG b s l f k = eqG c s l f k
  | 0, _, _, _ => rfl
  | f + 1, k, h1, h2 => by
    simp only [eqG]
    rw [q _ (by omega), eqG_q q hs f (k + 1) (by omega) (by omega)]
theorem isW_q (q : Bq b c n) {T : Tk} (h1 : TR T) (h2 : TN n T) {l : List Int} : isW b T l = isW c T l := by
  unfold isW
  by_cases z : T.2.2.2 = 1 ∧ T.2.1 - T.1 = (l.length : Int)
  · rw [eqG_q q h1.1 l.length 0 (by decide) (by have := h2 z.1; omega)]
  · by_cases z1 : T.2.2.2 = 1
    · rw [decide_eq_false (fun y : T.2.1 - T.1 = (l.length : Int) => z ⟨z1, y⟩)]
      simp
    · rw [decide_eq_false z1]
      simp
theorem nmG_q (q : Bq b c n) {a s : Int} (hs : 0 ≤ s) : ∀ (f : Nat) (i : Int), 0 ≤ i → s + i + f ≤ n → nmG w a b s f i = nmG w a c s f i
  | 0, _, _, _ => rfl
  | f + 1, i, h1, h2 => by
    simp only [nmG]
    rw [q _ (by omega), nmG_q q hs f (i + 1) (by omega) (by omega)]
theorem nmA_q (q : Bq b c n) {a : Int} {T : Tk} (h1 : TR T) (h2 : T.2.1 ≤ n) : nmA w a b T = nmA w a c T := by
  unfold nmA
  obtain ⟨t1, t2, t3⟩ := h1
  rw [nmG_q q t1 _ 0 (by decide) (by omega)]
theorem nhG_q (q : Bq b c n) {f : Int} {T : Tk} (h1 : TR T) (h2 : T.2.1 ≤ n) : ∀ (m : Nat) (k : Int), nhG w f b T m k = nhG w f c T m k
  | 0, _ => rfl
  | m + 1, k => by
    simp only [nhG]
    rw [nmA_q q h1 h2, nhG_q q h1 h2 m (k + 1)]
theorem naG_q (q : Bq b c n) {a : Int} {T : Tk} (h1 : TR T) (h2 : T.2.1 ≤ n) : ∀ (f : Nat) (i : Int) (w : Nat → Int), 0 ≤ i → naG a b T f i w = naG a c T f i w
  | 0, _, _, _ => rfl
  | f + 1, i, w, h => by
    show naG a b T f (i + 1) _ = naG a c T f (i + 1) _
    have e : (if i < T.2.1 - T.1 then b (T.1 + i).toNat else 0) = (if i < T.2.1 - T.1 then c (T.1 + i).toNat else 0) := by
      by_cases z : i < T.2.1 - T.1
      · rw [if_pos z, if_pos z]
        have := h1.1
        exact q _ (by omega)
      · rw [if_neg z, if_neg z]
    rw [e, naG_q q h1 h2 f (i + 1) _ (by omega)]
/-- b and c are read alike, to good places -/
def Cq (n : Int) (m m1 : PM) : Prop := m = m1 ∧ ∀ s, m = .inr s → Tg n s
theorem Cq.pb {m m1 : PM} {f g : PS → PM} (q : Cq n m m1) (h : ∀ s, Tg n s → Cq n (f s) (g s)) : Cq n (pb m f) (pb m1 g) := by
  obtain ⟨rfl, q2⟩ := q
  cases m with
  | inl e => exact ⟨rfl, fun s z => by cases z⟩
  | inr s => exact h s (q2 s rfl)
theorem Cq.err {x : Int} {s : PS} : Cq n (err x s) (err x s) := ⟨rfl, fun s z => by cases z⟩
theorem Cq.inr {s s1 : PS} (e : s = s1) (h : Tg n s) : Cq n (.inr s) (.inr s1) := ⟨by rw [e], fun s2 z => by cases z; exact h⟩
theorem mKn_q (q : Bq b c n) (h7 : n ≤ 700) {k f a : Int} {s : PS} (h : Tg n s) : Cq n (mKn b n k f a s) (mKn c n k f a s) := by
  unfold mKn
  by_cases z : isN s.2.1
  · have e : nhW s.1 f a b s.2.1 = nhW s.1 f a c s.2.1 := nhG_q q h.1 (h.2 z.1) _ _
    have nz : ¬ ¬ isN s.2.1 := fun y => y z
    rw [if_neg nz, if_neg nz, e]
    split
    · exact Cq.err
    · exact Cq.inr (adv_q q (s := setN s k _) h) (adv_g h7 (s := setN s k _) h)
  · rw [if_pos z, if_pos z]
    exact Cq.err
theorem mNum_q (q : Bq b c n) (h7 : n ≤ 700) {k : Int} {s : PS} (h : Tg n s) : Cq n (mNum b n k s) (mNum c n k s) := by
  unfold mNum
  rw [adv_q q h]
  split
  · exact Cq.err
  · split
    · exact Cq.err
    · exact Cq.inr rfl (show Tg n (adv c n s) from adv_g h7 h)
theorem mWrd_q (q : Bq b c n) (h7 : n ≤ 700) {x : Int} {s : PS} (h : Tg n s) : Cq n (mWrd b n x s) (mWrd c n x s) := by
  unfold mWrd
  rw [adv_q q h]
  split
  · exact Cq.err
  · exact Cq.inr rfl (adv_g h7 h)
theorem mWb_q (q : Bq b c n) (h7 : n ≤ 700) {p : Bool} {s : PS} (h : Tg n s) : Cq n (mWb b n p s) (mWb c n p s) := by
  unfold mWb
  rw [adv_q q h]
  split
  · exact Cq.inr rfl (adv_g h7 h)
  · exact Cq.err
theorem mSem_q (q : Bq b c n) (h7 : n ≤ 700) {s : PS} (h : Tg n s) : Cq n (mSem b n s) (mSem c n s) := by
  unfold mSem
  rw [adv_q q h]
  split
  · exact Cq.inr rfl (adv_g h7 h)
  · exact Cq.err
theorem mNew_q (q : Bq b c n) (h7 : n ≤ 700) {f a : Int} {s : PS} (h : Tg n s) : Cq n (mNew b n f a s) (mNew c n f a s) := by
  unfold mNew
  by_cases z : isN s.2.1
  · have e : nhW s.1 f a b s.2.1 = nhW s.1 f a c s.2.1 := nhG_q q h.1 (h.2 z.1) _ _
    have e2 : naW s.1 (f + 7 * s.1 a.toNat) b s.2.1 = naW s.1 (f + 7 * s.1 a.toNat) c s.2.1 := naG_q q h.1 (h.2 z.1) _ _ _ (by decide)
    have nz : ¬ ¬ isN s.2.1 := fun y => y z
    rw [if_neg nz, if_neg nz, e, e2]
    split
    · exact Cq.err
    · exact Cq.inr (adv_q q (s := (naW s.1 (f + 7 * s.1 a.toNat) c s.2.1, s.2.1, s.2.2)) h) (adv_g h7 (s := (naW s.1 (f + 7 * s.1 a.toNat) c s.2.1, s.2.1, s.2.2)) h)
  · rw [if_pos z, if_pos z]
    exact Cq.err
theorem opx_q (q : Bq b c n) {g : Int} {s : PS} (h : Tg n s) : opx b g s.2.1 = opx c g s.2.1 := by
  unfold opx opW acW
  simp only [isW_q q h.1 h.2]
theorem mThr_q (q : Bq b c n) (h7 : n ≤ 700) {k g : Int} {s : PS} (h : Tg n s) : Cq n (mThr b n k g s) (mThr c n k g s) := by
  unfold mThr
  refine (mKn_q q h7 h).pb (fun s h => ?_)
  rw [opx_q q h]
  exact (mWrd_q q h7 (s := setN s (k + 1) (opx c g s.2.1)) h).pb (fun s h => mNum_q q h7 h)
theorem mNmd_q (q : Bq b c n) (h7 : n ≤ 700) {f a m : Int} {s : PS} (h : Tg n s) : Cq n (mNmd b n f a m s) (mNmd c n f a m s) := by
  unfold mNmd
  rw [adv_q q h]
  split
  · exact Cq.err
  · refine (mNew_q q h7 (adv_g h7 h)).pb (fun s h => ?_)
    refine Cq.pb (m := if a = 2 then _ else _) (m1 := if a = 2 then _ else _) ?_ (fun s h => mSem_q q h7 (s := (udI s.1 a.toNat (s.1 a.toNat + 1), s.2.1, s.2.2)) h)
    split
    · exact (mNum_q q h7 h).pb (fun s h => Cq.inr rfl h)
    · exact Cq.inr rfl h
theorem mDo_q (q : Bq b c n) (h7 : n ≤ 700) {s : PS} (h : Tg n s) : Cq n (mDo b n s) (mDo c n s) := by
  unfold mDo
  rw [adv_q q h, isW_q q h.1 h.2]
  refine Cq.pb (m := if isW c s.2.1 tx_do = true then _ else _) (m1 := if isW c s.2.1 tx_do = true then _ else _) ?_ (fun s h => mSem_q q h7 h)
  split
  · exact (mThr_q q h7 (adv_g h7 h)).pb (fun s h => Cq.inr rfl h)
  · exact Cq.inr rfl h
theorem mWh_q (q : Bq b c n) (h7 : n ≤ 700) {s : PS} (h : Tg n s) : Cq n (mWh b n s) (mWh c n s) := by
  unfold mWh
  rw [adv_q q h, isW_q q h.1 h.2]
  refine Cq.pb (m := if isW c s.2.1 tx_when = true then _ else _) (m1 := if isW c s.2.1 tx_when = true then _ else _) ?_ (fun s h => mDo_q q h7 h)
  split
  · exact (mThr_q q h7 (adv_g h7 h)).pb (fun s h => Cq.inr rfl h)
  · exact Cq.inr rfl h
theorem mTrs_q (q : Bq b c n) (h7 : n ≤ 700) {s : PS} (h : Tg n s) : Cq n (mTrs b n s) (mTrs c n s) := by
  unfold mTrs
  rw [adv_q q h]
  split
  · exact Cq.err
  · refine (mKn_q q h7 (adv_g h7 h)).pb (fun s h => (mKn_q q h7 h).pb (fun s h => ?_))
    rw [isW_q q h.1 h.2]
    exact (mWb_q q h7 h).pb (fun s h => (mKn_q q h7 h).pb (fun s h => mWh_q q h7 (s := (ldW s.1 (s.2.2 0) (s.2.2 1) (s.2.2 2), s.2.1, s.2.2)) h))
theorem mInv_q (q : Bq b c n) (h7 : n ≤ 700) {g : Int} {s : PS} (h : Tg n s) : Cq n (mInv b n g s) (mInv c n g s) := by
  unfold mInv mIv2
  rw [adv_q q h]
  have h2 := adv_g (b := c) h7 h
  split
  · exact Cq.err
  · refine Cq.pb (m := if g = 0 then _ else _) (m1 := if g = 0 then _ else _) ?_ (fun s h => (mThr_q q h7 h).pb (fun s h => mSem_q q h7 (s := (keepW s.1 (s.2.2 0) (s.2.2 1) (s.2.2 2) (s.2.2 3), s.2.1, s.2.2)) h))
    split
    · exact Cq.inr rfl h2
    · exact mKn_q q h7 (s := setN (adv c n s) 0 (-1)) h2
theorem mStm_q (q : Bq b c n) (h7 : n ≤ 700) {s : PS} (h : Tg n s) : Cq n (mStm b n s) (mStm c n s) := by
  unfold mStm
  simp only [isW_q q h.1 h.2]
  split
  · exact mNmd_q q h7 h
  split
  · exact mNmd_q q h7 h
  split
  · exact mNmd_q q h7 h
  split
  · exact mTrs_q q h7 h
  split
  · exact mInv_q q h7 h
  split
  · exact mInv_q q h7 h
  · exact Cq.err
theorem mTxG_q (q : Bq b c n) (h7 : n ≤ 700) : ∀ (f : Nat) (s : PS), Tg n s → Cq n (mTxG b n f s) (mTxG c n f s)
  | 0, s, h => Cq.inr rfl h
  | f + 1, s, h => by
    simp only [mTxG]
    split
    · exact Cq.inr rfl h
    · exact (mStm_q q h7 h).pb (fun s h => mTxG_q q h7 f s h)
theorem mTxt_q (q : Bq b c n) (h7 : n ≤ 700) {nn : Nat → Int} : mTxt b n w nn = mTxt c n w nn := by
  unfold mTxt
  rw [tok_cg q (Int.le_refl 0)]
  have h := mTxG_q q h7 701 (zr w 0 504, tok c n 0, nn) ⟨tok_r h7 (by decide), tok_n⟩
  rw [h.1]
theorem mRst_q (q : Bq b c n) (h7 : n ≤ 700) {x : Int} {s : PS} (h : Tg n s) : Cq n (mRst b n x s) (mRst c n x s) := by
  unfold mRst
  split
  · exact mKn_q q h7 h
  · split
    · exact (mKn_q q h7 h).pb (fun s h => mNum_q q h7 h)
    · exact Cq.inr rfl h
theorem mSS_q (q : Bq b c n) (h7 : n ≤ 700) {s : PS} {L : SL} (h : Tg n s) : mSS b n s L = mSS c n s L ∧ ∀ z, mSS b n s L = .inr z → Tg n z.1 := by
  have e : scH b s.2.1 = scH c s.2.1 := by
    unfold scH
    simp only [isW_q q h.1 h.2]
  have a := mRst_q q h7 (x := scH c s.2.1) (adv_g (b := c) h7 h)
  unfold mSS
  rw [e, adv_q q h, a.1]
  split
  · exact ⟨rfl, fun z y => by cases y⟩
  · split
    · exact ⟨rfl, fun z y => by cases y⟩
    · cases z1 : mRst c n (scH c s.2.1) (adv c n s) with
      | inl e => exact ⟨rfl, fun z y => by cases y⟩
      | inr s1 =>
        have h1 := a.2 s1 (a.1.trans z1)
        have a2 := mSem_q q h7 h1
        dsimp only
        rw [a2.1]
        cases z2 : mSem c n s1 with
        | inl e => exact ⟨rfl, fun z y => by cases y⟩
        | inr s2 => exact ⟨rfl, fun z y => by cases y; exact a2.2 s2 (a2.1.trans z2)⟩
theorem mScr_q (q : Bq b c n) (h7 : n ≤ 700) : ∀ (f : Nat) (s : PS) (L : SL), Tg n s → mScr b n f s L = mScr c n f s L
  | 0, _, _, _ => rfl
  | f + 1, s, L, h => by
    simp only [mScr]
    split
    · rfl
    · obtain ⟨e1, e2⟩ := mSS_q q h7 (L := L) h
      rw [← e1]
      cases z : mSS b n s L with
      | inl e => rfl
      | inr y => exact mScr_q q h7 f y.1 y.2 (e2 y z)
theorem mRun_q (q : Bq b c n) (h7 : n ≤ 700) {nn : Nat → Int} : mRun b n w nn = mRun c n w nn := by
  unfold mRun
  rw [tok_cg q (Int.le_refl 0)]
  exact mScr_q q h7 31 _ _ ⟨tok_r h7 (by decide), tok_n⟩
end A
