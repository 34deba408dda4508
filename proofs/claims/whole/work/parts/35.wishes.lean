/-! The wishes: what the class keeps of them (row 6 of P) against the reference's list (rows 3 to 7 of X). -/
def sm (f : Nat → Nat) : Nat → Nat
  | 0 => 0
  | m + 1 => sm f m + f m
/-- what wish w adds, if the cell c has the shift s -/
def wc (X : Nat → Nat → Nat) (c s w : Nat) : Nat := if c = X 4 w * 6 + X 3 w ∧ (if s = X 5 w then 1 else 0) ≠ X 6 w then X 7 w else 0
def Wi (P X : Nat → Nat → Nat) : Prop := (∀ w, w < P 0 5 → X 3 w < P 0 0 ∧ X 4 w < P 0 1) ∧ (∀ c s, s ≤ 3 → P 6 (c * 4 + s) = sm (wc X c s) (P 0 5))
def rowG (F : Nat → Nat) (d : Nat) : Nat → Nat
  | 0 => 0
  | k + 1 => rowG F d k + F (d * 6 + k)
def daysG (F : Nat → Nat) (n : Nat) : Nat → Nat
  | 0 => 0
  | k + 1 => daysG F n k + rowG F k n
theorem rowS_G {P : Nat → Nat → Nat} {tr : Nat → Nat} {d : Nat} : ∀ k, rowS P tr d k = rowG (fun c => P 6 (c * 4 + tr c)) d k := by
  intro k
  induction k with
  | zero => rfl
  | succ k ih => rw [rowS, rowG, ih]
theorem daysS_G {P : Nat → Nat → Nat} {tr : Nat → Nat} : ∀ k, daysS P tr k = daysG (fun c => P 6 (c * 4 + tr c)) (P 0 0) k := by
  intro k
  induction k with
  | zero => rfl
  | succ k ih => rw [daysS, daysG, ih, rowS_G]
theorem rowG_add {F H : Nat → Nat} {d : Nat} : ∀ k, rowG (fun c => F c + H c) d k = rowG F d k + rowG H d k := by
  intro k
  induction k with
  | zero => rfl
  | succ k ih => simp only [rowG]; rw [ih]; omega
theorem daysG_add {F H : Nat → Nat} {n : Nat} : ∀ k, daysG (fun c => F c + H c) n k = daysG F n k + daysG H n k := by
  intro k
  induction k with
  | zero => rfl
  | succ k ih => simp only [daysG]; rw [ih, rowG_add]; omega
theorem rowG_zero {d : Nat} : ∀ k, rowG (fun _ => 0) d k = 0 := by
  intro k
  induction k with
  | zero => rfl
  | succ k ih => rw [rowG, ih]
theorem daysG_zero {n : Nat} : ∀ k, daysG (fun _ => 0) n k = 0 := by
  intro k
  induction k with
  | zero => rfl
  | succ k ih => rw [daysG, ih, rowG_zero]
/-- one place alone -/
theorem rowG_one {H : Nat → Nat} {e q v d : Nat} (hq : q < 6) (h1 : H (e * 6 + q) = v) (h0 : ∀ c, c ≠ e * 6 + q → H c = 0) : ∀ k, k ≤ 6 → rowG H d k = if e = d ∧ q < k then v else 0 := by
  intro k
  induction k with
  | zero => intro _; rw [if_neg (by omega)]; rfl
  | succ k ih =>
    intro hk
    rw [rowG, ih (by omega)]
    by_cases hd : e = d
    · subst hd
      by_cases hqk : q = k
      · subst hqk; rw [if_neg (by omega), if_pos (by omega), h1]; omega
      · rw [h0 (e * 6 + k) (by omega)]
        by_cases hl : q < k
        · rw [if_pos (by omega), if_pos (by omega)]; omega
        · rw [if_neg (by omega), if_neg (by omega)]
    · rw [if_neg (by omega), if_neg (by omega), h0 (d * 6 + k) (by omega)]
theorem daysG_one {H : Nat → Nat} {e q v n : Nat} (hn : n ≤ 6) (hq : q < n) (h1 : H (e * 6 + q) = v) (h0 : ∀ c, c ≠ e * 6 + q → H c = 0) : ∀ k, daysG H n k = if e < k then v else 0 := by
  intro k
  induction k with
  | zero => rfl
  | succ k ih =>
    rw [daysG, ih, rowG_one (by omega) h1 h0 n hn]
    by_cases hd : e = k
    · rw [if_neg (by omega), if_pos (by omega), if_pos (by omega)]; omega
    · by_cases hl : e < k
      · rw [if_pos hl, if_neg (by omega), if_pos (by omega)]; omega
      · rw [if_neg hl, if_neg (by omega), if_neg (by omega)]
theorem lex_le {e q d p n : Nat} (hq : q < n) (hp : p < n) : e * n + q ≤ d * n + p ↔ (e < d ∨ (e = d ∧ q ≤ p)) := by
  rcases Nat.lt_trichotomy e d with h | h | h
  · have h2 : (e + 1) * n ≤ d * n := Nat.mul_le_mul_right n h
    rw [Nat.add_mul, Nat.one_mul] at h2
    exact ⟨fun _ => Or.inl h, fun _ => by omega⟩
  · subst h
    exact ⟨fun h => Or.inr ⟨rfl, by omega⟩, fun h => by omega⟩
  · have h2 : (d + 1) * n ≤ e * n := Nat.mul_le_mul_right n h
    rw [Nat.add_mul, Nat.one_mul] at h2
    exact ⟨fun h => by omega, fun h => by omega⟩
/-- what the reference's wish w adds up to the place pl -/
def wt_ (X : Nat → Nat → Nat) (n : Nat) (sh : Nat → Nat) (pl w : Nat) : Nat := if X 4 w * n + X 3 w ≤ pl ∧ (if sh (X 4 w * 6 + X 3 w) = X 5 w then 1 else 0) ≠ X 6 w then X 7 w else 0
theorem utl_sm {P X : Nat → Nat → Nat} {sh : Nat → Nat} {pl : Nat} : ∀ k w, utl P X sh pl k w (sm (wt_ X (P 0 0) sh pl) w) = sm (wt_ X (P 0 0) sh pl) (w + k) := by
  intro k
  induction k with
  | zero => intro w; rfl
  | succ k ih =>
    intro w
    have h := ih (w + 1)
    rw [show w + 1 + k = w + (k + 1) by omega] at h
    rw [utl, ← h]
    rfl
theorem utM_sm {P X : Nat → Nat → Nat} {sh : Nat → Nat} {pl : Nat} : utM P X sh pl = sm (wt_ X (P 0 0) sh pl) (P 0 5) := by
  have h := utl_sm (P := P) (X := X) (sh := sh) (pl := pl) (P 0 5) 0
  rw [Nat.zero_add] at h
  exact h
theorem sm_le {f : Nat → Nat} (h : ∀ w, f w ≤ 100) : ∀ m, sm f m ≤ 100 * m := by
  intro m
  induction m with
  | zero => exact Nat.le_refl 0
  | succ m ih => have := h m; rw [sm]; omega
theorem sm_congr {f g : Nat → Nat} : ∀ m, (∀ w, w < m → f w = g w) → sm f m = sm g m := by
  intro m
  induction m with
  | zero => intro _; rfl
  | succ m ih => intro h; rw [sm, sm, ih (fun w hw => h w (by omega)), h m (by omega)]
theorem wc_at {X : Nat → Nat → Nat} {tr : Nat → Nat} {w : Nat} : wc X (X 4 w * 6 + X 3 w) (tr (X 4 w * 6 + X 3 w)) w = if (if tr (X 4 w * 6 + X 3 w) = X 5 w then 1 else 0) ≠ X 6 w then X 7 w else 0 := by
  unfold wc
  by_cases h : (if tr (X 4 w * 6 + X 3 w) = X 5 w then 1 else 0) ≠ X 6 w
  · rw [if_pos ⟨rfl, h⟩, if_pos h]
  · rw [if_neg (fun h2 => h h2.2), if_neg h]
theorem wc_off {X : Nat → Nat → Nat} {s w c : Nat} (h : c ≠ X 4 w * 6 + X 3 w) : wc X c s w = 0 := by
  unfold wc
  rw [if_neg (fun h2 => h h2.1)]
/-- the sums up to a place, and over all days -/
theorem unm_sm {X : Nat → Nat → Nat} {tr : Nat → Nat} {n d p : Nat} (hn : n ≤ 6) (hp : p < n) : ∀ m, (∀ w, w < m → X 3 w < n) → daysG (fun c => sm (wc X c (tr c)) m) n d + rowG (fun c => sm (wc X c (tr c)) m) d (p + 1) = sm (wt_ X n tr (d * n + p)) m := by
  intro m
  induction m with
  | zero => intro _; simp only [sm]; rw [daysG_zero, rowG_zero]
  | succ m ih =>
    intro h
    have hq := h m (by omega)
    have ih := ih (fun w hw => h w (by omega))
    simp only [sm]
    rw [daysG_add (F := fun c => sm (wc X c (tr c)) m) (H := fun c => wc X c (tr c) m), rowG_add (F := fun c => sm (wc X c (tr c)) m) (H := fun c => wc X c (tr c) m)]
    rw [daysG_one (H := fun c => wc X c (tr c) m) hn hq wc_at (fun c hc => wc_off hc), rowG_one (H := fun c => wc X c (tr c) m) (by omega) wc_at (fun c hc => wc_off hc) (p + 1) (by omega)]
    rw [← ih]
    have hl := lex_le (e := X 4 m) (d := d) hq hp
    unfold wt_
    by_cases hu : (if tr (X 4 m * 6 + X 3 m) = X 5 m then 1 else 0) ≠ X 6 m
    · rw [if_pos hu]
      by_cases h1 : X 4 m < d
      · rw [if_pos h1, if_neg (by omega), if_pos ⟨hl.mpr (Or.inl h1), hu⟩]; omega
      · by_cases h2 : X 4 m = d ∧ X 3 m < p + 1
        · rw [if_neg h1, if_pos h2, if_pos ⟨hl.mpr (Or.inr ⟨h2.1, by omega⟩), hu⟩]; omega
        · rw [if_neg h1, if_neg h2, if_neg (fun h3 => by rcases hl.mp h3.1 with h4 | h4 <;> omega)]; omega
    · rw [if_neg hu, if_neg (c := X 4 m * n + X 3 m ≤ d * n + p ∧ (if tr (X 4 m * 6 + X 3 m) = X 5 m then 1 else 0) ≠ X 6 m) (fun h3 => hu h3.2)]
      simp
theorem all_sm {X : Nat → Nat → Nat} {tr : Nat → Nat} {n k : Nat} (hn : n ≤ 6) (hk : k ≤ 7) : ∀ m, (∀ w, w < m → X 3 w < n ∧ X 4 w < k) → daysG (fun c => sm (wc X c (tr c)) m) n k = sm (wt_ X n tr 42) m := by
  intro m
  induction m with
  | zero => intro _; simp only [sm]; rw [daysG_zero]
  | succ m ih =>
    intro h
    obtain ⟨hq, he⟩ := h m (by omega)
    have ih := ih (fun w hw => h w (by omega))
    simp only [sm]
    rw [daysG_add (F := fun c => sm (wc X c (tr c)) m) (H := fun c => wc X c (tr c) m), daysG_one (H := fun c => wc X c (tr c) m) hn hq wc_at (fun c hc => wc_off hc), ← ih, if_pos he]
    have hl : X 4 m * n + X 3 m ≤ 42 := by
      have : X 4 m * n ≤ 6 * 6 := Nat.mul_le_mul (by omega) hn
      omega
    unfold wt_
    by_cases hu : (if tr (X 4 m * 6 + X 3 m) = X 5 m then 1 else 0) ≠ X 6 m
    · rw [if_pos hu, if_pos ⟨hl, hu⟩]
    · rw [if_neg hu, if_neg (fun h3 => hu h3.2)]
theorem wi_fun {P X : Nat → Nat → Nat} {tr : Nat → Nat} (h : Wi P X) (ht : ∀ k, tr k ≤ 3) : (fun c => P 6 (c * 4 + tr c)) = fun c => sm (wc X c (tr c)) (P 0 5) := by
  funext c
  exact h.2 c (tr c) (ht c)
/-- the search's sum up to a place is the reference's -/
theorem wi_ut {P X : Nat → Nat → Nat} (hP : okP P) (h : Wi P X) : ∀ tr d p, (∀ k, tr k ≤ 3) → p < P 0 0 → d < P 0 1 → utM P X tr (d * P 0 0 + p) = unm P tr d p := by
  intro tr d p ht hp _
  rw [utM_sm, unm, daysS_G, rowS_G, wi_fun h ht]
  exact (unm_sm hP.1 hp (P 0 5) (fun w hw => (h.1 w hw).1)).symm
theorem wt_le {X : Nat → Nat → Nat} (hX : okX X) (n : Nat) (sh : Nat → Nat) (pl w : Nat) : wt_ X n sh pl w ≤ 100 := by
  have := hX.2.2.2.2.2.2.2.2.2.2 w
  unfold wt_
  by_cases h : X 4 w * n + X 3 w ≤ pl ∧ (if sh (X 4 w * 6 + X 3 w) = X 5 w then 1 else 0) ≠ X 6 w
  · rw [if_pos h]; exact this
  · rw [if_neg h]; omega
theorem wi_cap {P X : Nat → Nat → Nat} (hP : okP P) (hX : okX X) (h : Wi P X) : ∀ (t : Nat → Nat) (e q : Nat), (∀ k, t k ≤ 3) → q < P 0 0 → e < P 0 1 → unm P t e q ≤ 2000 := by
  intro t e q ht hq he
  rw [← wi_ut hP h t e q ht hq he, utM_sm]
  have h1 := sm_le (f := wt_ X (P 0 0) t (e * P 0 0 + q)) (wt_le hX _ _ _) (P 0 5)
  have h2 := hP.2.2.2.2.2.1
  omega
theorem us1_G {P : Nat → Nat → Nat} {sh : Nat → Nat} {d a : Nat} : ∀ k p, us1 P sh d k p (a + rowS P sh d p) = a + rowS P sh d (p + k) := by
  intro k
  induction k with
  | zero => intro p; rfl
  | succ k ih =>
    intro p
    have h := ih (p + 1)
    rw [show p + 1 + k = p + (k + 1) by omega, rowS, ← Nat.add_assoc] at h
    rw [us1, h]
theorem us_G {P : Nat → Nat → Nat} {sh : Nat → Nat} : ∀ k d, us P sh k d (daysS P sh d) = daysS P sh (d + k) := by
  intro k
  induction k with
  | zero => intro d; rfl
  | succ k ih =>
    intro d
    have h := ih (d + 1)
    have h2 := us1_G (P := P) (sh := sh) (d := d) (a := daysS P sh d) (P 0 0) 0
    rw [Nat.zero_add] at h2
    rw [show d + 1 + k = d + (k + 1) by omega, daysS, ← h2] at h
    exact h
theorem wi_sum {P X : Nat → Nat → Nat} {sh : Nat → Nat} (hP : okP P) (h : Wi P X) (hs : ∀ k, sh k ≤ 3) : utM P X sh 42 = unmetSum P sh := by
  have h2 := us_G (P := P) (sh := sh) (P 0 1) 0
  rw [Nat.zero_add] at h2
  rw [utM_sm, unmetSum, show us P sh (P 0 1) 0 0 = daysS P sh (P 0 1) from h2, daysS_G, wi_fun h hs]
  exact (all_sm hP.1 hP.2.1 (P 0 5) h.1).symm
/-! preservation -/
theorem wi_days {P X : Nat → Nat → Nat} {d : Nat} : Wi (sdP P d) X := ⟨fun w hw => absurd (show w < 0 from hw) (Nat.not_lt_zero w), fun _ _ _ => rfl⟩
theorem wi_person {P X : Nat → Nat → Nat} {x y : Nat} (h : Wi P X) : Wi (up2 (up2 (up2 P 1 (P 0 0) x) 2 (P 0 0) y) 0 0 (P 0 0 + 1)) X :=
  ⟨fun w hw => ⟨Nat.lt_succ_of_lt (h.1 w hw).1, (h.1 w hw).2⟩, h.2⟩
theorem wi_X {P X Y : Nat → Nat → Nat} (h : Wi P X) (hr : ∀ r, 3 ≤ r → Y r = X r) : Wi P Y := by
  obtain ⟨h1, h2⟩ := h
  have e : ∀ c s, wc Y c s = wc X c s := fun c s => by
    funext w
    unfold wc
    rw [hr 3 (by decide), hr 4 (by decide), hr 5 (by decide), hr 6 (by decide), hr 7 (by decide)]
  refine ⟨fun w hw => ?_, fun c s hs => ?_⟩
  · rw [hr 3 (by decide), hr 4 (by decide)]; exact h1 w hw
  · rw [e]; exact h2 c s hs
/-- a wish: the class adds the weight at the choices that leave it unmet -/
theorem aw_6 {fc sf wb wt : Nat} {P : Nat → Nat → Nat} : ∀ k o j, o + k = 4 → (aw fc sf wb wt k o P) 6 j = P 6 j + (if fc + o ≤ j ∧ j < fc + 4 ∧ (if j - fc = sf then 1 else 0) ≠ wb then wt else 0) := by
  intro k
  induction k generalizing P with
  | zero => intro o j h; rw [aw, if_neg (by omega)]; rfl
  | succ k ih =>
    intro o j h
    rw [aw, ih (o + 1) j (by omega)]
    by_cases hm : (if o = sf then 1 else 0) = wb
    · rw [if_pos hm]
      congr 1
      by_cases hj : j = fc + o
      · subst hj
        rw [if_neg (by omega), if_neg (fun h2 => h2.2.2 (by rw [show fc + o - fc = o by omega]; exact hm))]
      · by_cases hc : fc + o ≤ j ∧ j < fc + 4 ∧ (if j - fc = sf then 1 else 0) ≠ wb
        · rw [if_pos hc, if_pos ⟨by omega, hc.2⟩]
        · rw [if_neg hc, if_neg (fun h2 => hc ⟨by omega, h2.2⟩)]
    · rw [if_neg hm]
      by_cases hj : j = fc + o
      · subst hj
        rw [if_neg (c := fc + (o + 1) ≤ fc + o ∧ fc + o < fc + 4 ∧ (if fc + o - fc = sf then 1 else 0) ≠ wb) (by omega), if_pos (c := fc + o ≤ fc + o ∧ fc + o < fc + 4 ∧ (if fc + o - fc = sf then 1 else 0) ≠ wb) ⟨by omega, by omega, by rw [show fc + o - fc = o by omega]; exact hm⟩]
        simp [up2]
      · rw [show up2 P 6 (fc + o) (P 6 (fc + o) + wt) 6 j = P 6 j by simp [up2, hj]]
        congr 1
        by_cases hc : fc + o ≤ j ∧ j < fc + 4 ∧ (if j - fc = sf then 1 else 0) ≠ wb
        · rw [if_pos hc, if_pos ⟨by omega, hc.2⟩]
        · rw [if_neg hc, if_neg (fun h2 => hc ⟨by omega, h2.2⟩)]
theorem aw_r {fc sf wb wt r : Nat} (hr : r ≠ 6) : ∀ k o (P : Nat → Nat → Nat), (aw fc sf wb wt k o P) r = P r := by
  intro k
  induction k with
  | zero => intro o P; rfl
  | succ k ih =>
    intro o P
    rw [aw, ih]
    by_cases hm : (if o = sf then 1 else 0) = wb
    · rw [if_pos hm]
    · rw [if_neg hm]; funext j; simp [up2, hr]
def wX (X : Nat → Nat → Nat) (n p1 d sf b wt : Nat) : Nat → Nat → Nat := up2 (up2 (up2 (up2 (up2 (up2 X 0 0 0) 3 n p1) 4 n d) 5 n sf) 6 n b) 7 n wt
theorem wX_old {X : Nat → Nat → Nat} {n p1 d sf b wt r w : Nat} (hr : 3 ≤ r) (hw : w ≠ n) : wX X n p1 d sf b wt r w = X r w := by
  simp only [wX, up2, if_neg hw, if_neg (show ¬ r = 0 by omega)]
  simp
def wP6 (P : Nat → Nat → Nat) (p1 d sf b wt : Nat) : Nat → Nat → Nat := up2 (aw ((d * 6 + p1) * 4 + 0) sf b wt 4 0 P) 0 5 (P 0 5 + 1)
theorem wP6_r {P : Nat → Nat → Nat} {p1 d sf b wt r : Nat} (hr : r < 6) : wP6 P p1 d sf b wt r = up2 P 0 5 (P 0 5 + 1) r := by
  funext k
  simp only [wP6, up2]
  rw [aw_r (by omega)]
theorem wc_new {X : Nat → Nat → Nat} {n p1 d sf b wt c s : Nat} : wc (wX X n p1 d sf b wt) c s n = if c = d * 6 + p1 ∧ (if s = sf then 1 else 0) ≠ b then wt else 0 := by
  simp [wc, wX, up2]
theorem wi_wish {P X : Nat → Nat → Nat} {p1 d sf b wt : Nat} (h : Wi P X) (hp : p1 < P 0 0) (hd : d < P 0 1) : Wi (wP6 P p1 d sf b wt) (wX X (P 0 5) p1 d sf b wt) := by
  have e0 : wP6 P p1 d sf b wt 0 0 = P 0 0 := congrFun (wP6_r (by decide)) 0
  have e1 : wP6 P p1 d sf b wt 0 1 = P 0 1 := congrFun (wP6_r (by decide)) 1
  have e5 : wP6 P p1 d sf b wt 0 5 = P 0 5 + 1 := congrFun (wP6_r (by decide)) 5
  obtain ⟨h1, h2⟩ := h
  refine ⟨fun w hw => ?_, fun c s hs => ?_⟩
  · rw [e0, e1]
    rw [e5] at hw
    by_cases hn : w = P 0 5
    · subst hn
      exact ⟨by simp [wX, up2, hp], by simp [wX, up2, hd]⟩
    · rw [wX_old (by decide) hn, wX_old (by decide) hn]
      exact h1 w (by omega)
  · rw [e5, sm, wc_new, show wP6 P p1 d sf b wt 6 (c * 4 + s) = aw ((d * 6 + p1) * 4 + 0) sf b wt 4 0 P 6 (c * 4 + s) from rfl, aw_6 4 0 _ rfl, h2 c s hs]
    congr 1
    · refine sm_congr _ (fun w hw => ?_)
      unfold wc
      rw [wX_old (by decide) (show w ≠ P 0 5 by omega), wX_old (by decide) (show w ≠ P 0 5 by omega), wX_old (by decide) (show w ≠ P 0 5 by omega), wX_old (by decide) (show w ≠ P 0 5 by omega), wX_old (by decide) (show w ≠ P 0 5 by omega)]
    · by_cases hc : c = d * 6 + p1
      · subst hc
        have e : (d * 6 + p1) * 4 + s - ((d * 6 + p1) * 4 + 0) = s := by omega
        rw [e]
        by_cases hm : (if s = sf then 1 else 0) ≠ b
        · rw [if_pos ⟨by omega, by omega, hm⟩, if_pos ⟨rfl, hm⟩]
        · rw [if_neg (fun h3 => hm h3.2.2), if_neg (fun h3 => hm h3.2)]
      · rw [if_neg (fun h3 => by omega), if_neg (fun h3 => hc h3.1)]
/-! the class's count of changed shifts is the reference's -/
def pcell (G : Nat → Nat → Nat) (i : Nat) : Nat := if G 2 i ≠ G 1 i then 1 else 0
theorem pri_G {G : Nat → Nat → Nat} {d a : Nat} : ∀ k p, pri G d k p (a + rowG (pcell G) d p) = a + rowG (pcell G) d (p + k) := by
  intro k
  induction k with
  | zero => intro p; rfl
  | succ k ih =>
    intro p
    have h := ih (p + 1)
    rw [show p + 1 + k = p + (k + 1) by omega, rowG, ← Nat.add_assoc] at h
    rw [pri, ← h]
    unfold pcell
    by_cases hg : G 1 (d * 6 + p) = G 2 (d * 6 + p)
    · rw [if_pos hg, if_neg (fun h2 => h2 hg.symm)]; rfl
    · rw [if_neg hg, if_pos (fun h2 => hg h2.symm)]
theorem pro_G {P G : Nat → Nat → Nat} : ∀ k d, pro P G k d (daysG (pcell G) (P 0 0) d) = daysG (pcell G) (P 0 0) (d + k) := by
  intro k
  induction k with
  | zero => intro d; rfl
  | succ k ih =>
    intro d
    have h := ih (d + 1)
    have h2 := pri_G (G := G) (d := d) (a := daysG (pcell G) (P 0 0) d) (P 0 0) 0
    rw [Nat.zero_add] at h2
    rw [show d + 1 + k = d + (k + 1) by omega, daysG, ← h2] at h
    exact h
/-- the reference's count, day by day -/
def pin (P G : Nat → Nat → Nat) (i : Nat) : Nat := if i / 6 < P 0 1 ∧ i % 6 < P 0 0 ∧ G 2 i ≠ G 1 i then 1 else 0
theorem publ_sm {P G : Nat → Nat → Nat} : ∀ k i, publ P G k i (sm (pin P G) i) = sm (pin P G) (i + k) := by
  intro k
  induction k with
  | zero => intro i; rfl
  | succ k ih =>
    intro i
    have h := ih (i + 1)
    rw [show i + 1 + k = i + (k + 1) by omega] at h
    rw [publ, ← h]
    rfl
theorem sm_row {P G : Nat → Nat → Nat} (hn : P 0 0 ≤ 6) : ∀ d, d ≤ 7 → sm (pin P G) (d * 6) = daysG (pcell G) (P 0 0) (min d (P 0 1)) := by
  have hrow : ∀ d k, k ≤ 6 → sm (pin P G) (d * 6 + k) = sm (pin P G) (d * 6) + (if d < P 0 1 then rowG (pcell G) d (min k (P 0 0)) else 0) := by
    intro d k
    induction k with
    | zero => intro _; simp [rowG]
    | succ k ih =>
      intro hk
      rw [← Nat.add_assoc, sm, ih (by omega)]
      have hdv : (d * 6 + k) / 6 = d := by omega
      have hmd : (d * 6 + k) % 6 = k := by omega
      unfold pin
      rw [hdv, hmd]
      by_cases hd : d < P 0 1
      · rw [if_pos hd, if_pos hd]
        by_cases hkn : k < P 0 0
        · rw [Nat.min_eq_left (by omega), Nat.min_eq_left (by omega), rowG]
          unfold pcell
          by_cases hg : G 2 (d * 6 + k) ≠ G 1 (d * 6 + k)
          · rw [if_pos ⟨hd, hkn, hg⟩, if_pos hg]; omega
          · rw [if_neg (fun h => hg h.2.2), if_neg hg]
            omega
        · rw [Nat.min_eq_right (by omega), Nat.min_eq_right (by omega), if_neg (fun h => hkn h.2.1)]; rfl
      · rw [if_neg hd, if_neg hd, if_neg (fun h => hd h.1)]
  intro d
  induction d with
  | zero => intro _; simp [sm, daysG]
  | succ d ih =>
    intro hd
    rw [show (d + 1) * 6 = d * 6 + 6 by omega, hrow d 6 (Nat.le_refl 6), ih (by omega), Nat.min_eq_right hn]
    by_cases hl : d < P 0 1
    · rw [if_pos hl, Nat.min_eq_left (by omega), Nat.min_eq_left (by omega), daysG]
    · rw [if_neg hl, Nat.min_eq_right (by omega), Nat.min_eq_right (by omega)]; rfl
theorem pub_eq {P G : Nat → Nat → Nat} (hP : okP P) : pubM P G = pubR P G := by
  have h1 := publ_sm (P := P) (G := G) 42 0
  have h2 := sm_row (P := P) (G := G) hP.1 7 (Nat.le_refl 7)
  have h3 := pro_G (P := P) (G := G) (P 0 1) 0
  rw [Nat.zero_add] at h1 h3
  rw [Nat.min_eq_right hP.2.1] at h2
  exact (h1.trans h2).trans h3.symm
