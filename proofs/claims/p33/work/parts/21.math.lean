/-! THE MATHEMATICS of the document: exact roots, ramp intervals, top index, the ticks of a move -/
def isqD (v : Nat) : Nat → Nat
  | 0 => 0
  | r+1 => if (r+1)*(r+1) ≤ v then r+1 else isqD v r
def isq (v : Nat) : Nat := isqD v v
theorem isqD_le (v : Nat) : ∀ r, isqD v r * isqD v r ≤ v := by
  intro r
  induction r with
  | zero => simp [isqD]
  | succ r ih =>
    unfold isqD
    by_cases h : (r+1)*(r+1) ≤ v
    · rw [if_pos h]; exact h
    · rw [if_neg h]; exact ih
theorem isqD_lt (v : Nat) : ∀ r, (∀ s, r < s → v < s * s) → v < (isqD v r + 1) * (isqD v r + 1) := by
  intro r
  induction r with
  | zero => intro h; exact h 1 (by omega)
  | succ r ih =>
    intro h
    unfold isqD
    by_cases h1 : (r+1)*(r+1) ≤ v
    · rw [if_pos h1]; exact h (r+2) (by omega)
    · rw [if_neg h1]
      refine ih (fun s hs => ?_)
      rcases Nat.lt_or_ge (r+1) s with q | q
      · exact h s q
      · rw [show s = r + 1 by omega]; omega
theorem isq_le (v : Nat) : isq v * isq v ≤ v := isqD_le v v
theorem isq_lt (v : Nat) : v < (isq v + 1) * (isq v + 1) := isqD_lt v v (fun s hs => Nat.lt_of_lt_of_le hs (Nat.le_mul_self s))
theorem sq_lt {x y : Nat} (h : x * x < y * y) : x < y := by
  rcases Nat.lt_or_ge x y with q | q
  · exact q
  · exact absurd (Nat.mul_le_mul q q) (by omega)
theorem isq_un {v r : Nat} (h1 : r * r ≤ v) (h2 : v < (r + 1) * (r + 1)) : r = isq v := by
  have h3 := isq_le v
  have h4 := isq_lt v
  have h5 := sq_lt (Nat.lt_of_le_of_lt h1 h4)
  have h6 := sq_lt (Nat.lt_of_le_of_lt h3 h2)
  omega
theorem isq_ge {v r : Nat} (h : r * r ≤ v) : r ≤ isq v := by
  have := sq_lt (Nat.lt_of_le_of_lt h (isq_lt v))
  omega
theorem isq_mono {v w : Nat} (h : v ≤ w) : isq v ≤ isq w := isq_ge (Nat.le_trans (isq_le v) h)
def T (a n : Nat) : Nat := isq (200000000 * n / a)
def Rr (a n : Nat) : Nat := T a (n+1) - T a n
def cr (v : Nat) : Nat := (10000 + v - 1) / v
theorem T_0 (a : Nat) : T a 0 = 0 := by
  have := isq_le (200000000 * 0 / a)
  rw [Nat.mul_zero, Nat.zero_div] at this
  unfold T
  rw [Nat.mul_zero, Nat.zero_div]
  rcases Nat.eq_zero_or_pos (isq 0) with h | h
  · exact h
  · have := Nat.mul_pos h h; omega
theorem T_mono (a : Nat) {n m : Nat} (h : n ≤ m) : T a n ≤ T a m := isq_mono (Nat.div_le_div_right (Nat.mul_le_mul_left _ h))
theorem T_s (a n : Nat) : T a n ≤ T a (n+1) := T_mono a (Nat.le_succ n)
theorem T_R (a n : Nat) : T a (n+1) = T a n + Rr a n := by have := T_s a n; unfold Rr; omega
theorem T_le {a : Nat} (ha : 1 ≤ a) (n : Nat) : a * (T a n * T a n) ≤ 200000000 * n := by
  have := isq_le (200000000 * n / a)
  rw [Nat.le_div_iff_mul_le ha] at this
  rw [Nat.mul_comm a]
  exact this
theorem T_lt {a : Nat} (ha : 1 ≤ a) (n : Nat) : 200000000 * n < a * ((T a n + 1) * (T a n + 1)) := by
  have := isq_lt (200000000 * n / a)
  rw [Nat.div_lt_iff_lt_mul ha] at this
  rw [Nat.mul_comm a]
  exact this
theorem T_bd {a n : Nat} (ha : 1 ≤ a) (hn : n ≤ 1000) : T a n ≤ 447213 := by
  have h1 := T_le ha n
  have h2 : 1 * (T a n * T a n) ≤ a * (T a n * T a n) := Nat.mul_le_mul_right _ ha
  have h3 : T a n * T a n < 447214 * 447214 := by omega
  have := sq_lt h3
  omega
theorem T_ge {a n : Nat} (ha : 1 ≤ a) (ha2 : a ≤ 999) (hn : 1 ≤ n) : 447 ≤ T a n := by
  refine isq_ge ?_
  rw [Nat.le_div_iff_mul_le ha]
  have : 447 * 447 * a ≤ 447 * 447 * 999 := Nat.mul_le_mul_left _ ha2
  omega
theorem cr_bd {v : Nat} (h1 : 1 ≤ v) (h2 : v ≤ 999) : 11 ≤ cr v ∧ cr v ≤ 10000 := by
  unfold cr
  constructor
  · rw [Nat.le_div_iff_mul_le h1]; omega
  · refine Nat.div_le_of_le_mul ?_
    have : 1 * 9999 ≤ v * 9999 := Nat.mul_le_mul_right _ h1
    have e : v * 10000 = v * 9999 + v := by omega
    omega
/-! plain identities -/
theorem q1 (p b u d : Nat) : (p + b + (u + 2 + d)) * (p + b + (u + 2 + d)) = (p+b+1)*(p+b+1) + (u+1+d)*(2*p+2*b+u+3+d) := by grind
theorem q2 (p u : Nat) : (p+u+1)*(p+u+1) = p*p + (u+1)*(2*p+u+1) := by grind
theorem q3 (a c p : Nat) : a * ((c+1)*(2*p+c+1)) = a * (c+1) * (2*p) + a * (c+1) * (c+1) := by grind
theorem q4 (n a c : Nat) : (n + 1) * (4 * a * (c + 1) * (c + 1)) = 4 * (n + 1) * (a * (c+1) * (c+1)) := by grind
theorem q5 (A p : Nat) : A * (2 * p) = 2 * (A * p) := by grind
theorem q6 (a c p : Nat) : (a * (c+1) * p) * (a * (c+1) * p) = a * (c+1) * (c+1) * (a * (p * p)) := by grind
theorem q7 (B n k : Nat) : B * (k * n) = k * (n * B) := by grind
theorem q8 (n B : Nat) : 4 * (n + 1) * B = 4 * (n * B) + 4 * B := by grind
theorem q9 (G : Nat) : (2 * G) * (2 * G) = 4 * (G * G) := by grind
theorem q10 (B E : Nat) : (3*B+E) * (3*B+E) = 9 * (B*B) + 6 * (B*E) + E*E := by grind
theorem q11 (B E : Nat) : (4*B+E) * E = 4 * (B*E) + E*E := by grind
theorem q12 (n k : Nat) : n * (k * (n+1)) = (n+1) * (k * n) := by grind
theorem q13 (n a x : Nat) : n * (a * x) = a * (n * x) := by grind
theorem q14 (n p f : Nat) : n * ((p + (f+1)) * (p + (f+1))) = n * (p * p) + p * (2 * n * (f+1)) + n * ((f+1)*(f+1)) := by grind
theorem q15 (d x : Nat) : x * (d + x + d) + d * d = (d + x) * (d + x) := by grind
theorem q16 (B d c : Nat) : 2 * (B + d * (c + 1)) * c = 2 * (B * c) + 2 * (d * (c * (c + 1))) := by grind
theorem q17 (B d c : Nat) : (2 * B + 2 * d * c) * (c + 1) = 2 * (B * c) + 2 * B + 2 * (d * (c * (c + 1))) := by grind
/-- ramp intervals grow by at most 1 behind an index -/
theorem R_flat {a n m : Nat} (ha : 1 ≤ a) (h : n ≤ m) : Rr a m ≤ Rr a n + 1 := by
  rcases Nat.lt_or_ge (Rr a n + 1) (Rr a m) with q | q
  · exfalso
    have h1 := T_le ha (m+1)
    have h2 := T_lt ha m
    have h3 := T_lt ha (n+1)
    have h4 := T_le ha n
    have e1 := T_R a n
    have e2 := T_R a m
    have m1 := T_mono a h
    generalize T a n = p at *
    generalize T a m = s at *
    generalize Rr a n = u at *
    generalize Rr a m = w at *
    rw [e1] at h3
    rw [e2] at h1
    -- a ((s+w)^2 - (s+1)^2) < C < a ((p+u+1)^2 - p^2)
    have k1 : a * ((s + w) * (s + w)) + 200000000 * m + 200000000 * n < a * ((s+1)*(s+1)) + a * ((p+u+1)*(p+u+1)) + 200000000 * m + 200000000 * n := by omega
    have k2 : a * ((s + w) * (s + w)) + a * (p * p) < a * ((s+1)*(s+1)) + a * ((p+u+1)*(p+u+1)) := by omega
    rw [← Nat.mul_add, ← Nat.mul_add] at k2
    have k3 := Nat.lt_of_mul_lt_mul_left k2
    -- w = u + 2 + d, s = p + b
    obtain ⟨d, rfl⟩ : ∃ d, w = u + 2 + d := ⟨w - (u + 2), by omega⟩
    obtain ⟨b, rfl⟩ : ∃ b, s = p + b := ⟨s - p, by omega⟩
    have x1 : (p + b + (u + 2 + d)) * (p + b + (u + 2 + d)) = (p+b+1)*(p+b+1) + (u+1+d)*(2*p+2*b+u+3+d) := q1 p b u d
    have x2 : (p+u+1)*(p+u+1) = p*p + (u+1)*(2*p+u+1) := q2 p u
    have x3 : (u+1)*(2*p+u+1) ≤ (u+1+d)*(2*p+2*b+u+3+d) := Nat.mul_le_mul (by omega) (by omega)
    omega
  · exact q
theorem low_pure (K a c n p u : Nat) (h3 : K * (n+1) < a * ((p + u + 1) * (p + u + 1))) (h4 : a * (p * p) ≤ K * n) (q : u ≤ c) (h : (n + 1) * (4 * a * (c + 1) * (c + 1)) ≤ K) : False := by
  have h5 : a * ((p + u + 1) * (p + u + 1)) ≤ a * ((p + c + 1) * (p + c + 1)) := Nat.mul_le_mul_left _ (Nat.mul_le_mul (by omega) (by omega))
  rw [q2 p c, Nat.mul_add a, q3 a c p, q5] at h5
  have z2 := q6 a c p
  rw [q4 n a c, q8 n] at h
  have z3 : a * (c+1) * (c+1) * (a * (p * p)) ≤ a * (c+1) * (c+1) * (K * n) := Nat.mul_le_mul_left _ h4
  rw [← z2, q7 (a * (c+1) * (c+1)) n K] at z3
  generalize a * (c+1) * (c+1) = B at *
  generalize a * (c+1) * p = G at *
  rw [Nat.mul_add K, Nat.mul_one] at h3
  obtain ⟨E, rfl⟩ : ∃ E, K = 4 * B + E := ⟨K - 4 * B, by omega⟩
  have w1 : 3 * B + E < 2 * G := by omega
  have w2 : (3 * B + E) * (3 * B + E) < (2 * G) * (2 * G) := Nat.mul_lt_mul'' w1 w1
  rw [q9, q10] at w2
  have w4 : 4 * (n * B) ≤ E := by omega
  have w5 : (4 * B + E) * (4 * (n * B)) ≤ (4 * B + E) * E := Nat.mul_le_mul_left _ w4
  rw [q11, Nat.mul_left_comm] at w5
  omega
/-- below this bound the ramp interval is greater than the cruise interval -/
theorem R_low {a c n : Nat} (ha : 1 ≤ a) (h : (n + 1) * (4 * a * (c + 1) * (c + 1)) ≤ 200000000) : c < Rr a n := by
  rcases Nat.lt_or_ge c (Rr a n) with q | q
  · exact q
  · have h3 := T_lt ha (n+1)
    rw [T_R a n] at h3
    exact absurd (low_pure 200000000 a c n (T a n) (Rr a n) h3 (T_le ha n) q h) id
theorem after_pure (K a n p f t : Nat) (hn : 1 ≤ n) (h1 : a * (t * t) ≤ K * (n+1)) (h2 : K * n < a * (p * p)) (hf : p < f * (2 * n) + 2 * n) (q : p + f < t) : False := by
  have k1 : (p + (f + 1)) * (p + (f + 1)) ≤ t * t := Nat.mul_le_mul (by omega) (by omega)
  have k2 : a * ((p + (f+1)) * (p + (f+1))) ≤ K * (n+1) := Nat.le_trans (Nat.mul_le_mul_left _ k1) h1
  have k3 : n * (a * ((p + (f+1)) * (p + (f+1)))) ≤ n * (K * (n+1)) := Nat.mul_le_mul_left _ k2
  have k4 : (n+1) * (K * n) < (n+1) * (a * (p * p)) := Nat.mul_lt_mul_of_pos_left h2 (by omega)
  rw [q12, q13 n a] at k3
  rw [q13 (n+1) a] at k4
  have k6 := Nat.lt_of_mul_lt_mul_left (Nat.lt_of_le_of_lt k3 k4)
  rw [q14 n p f, Nat.add_mul n 1, Nat.one_mul] at k6
  have k7 : p * p ≤ p * (2 * n * (f + 1)) := Nat.mul_le_mul_left _ (by
    have : 2 * n * (f + 1) = f * (2 * n) + 2 * n := by rw [Nat.mul_add, Nat.mul_one, Nat.mul_comm f]
    omega)
  omega
/-- from where the root behind is looked for -/
theorem T_after {a n : Nat} (ha : 1 ≤ a) (hn : 1 ≤ n) : T a (n+1) ≤ T a n + 1 + (T a n + 1) / (2 * n) := by
  rcases Nat.lt_or_ge (T a n + 1 + (T a n + 1) / (2 * n)) (T a (n+1)) with q | q
  · exact absurd (after_pure 200000000 a n (T a n + 1) ((T a n + 1) / (2 * n)) (T a (n+1)) hn (T_le ha (n+1)) (T_lt ha n) (Nat.lt_div_mul_add (a := T a n + 1) (show 0 < 2 * n by omega)) q) id
  · exact q
/-! Newton's rounds -/
theorem nw_ge {N r g : Nat} (hr : r * r ≤ N) (hg : r ≤ g) (h0 : 0 < g) : r ≤ (g + N / g) / 2 := by
  obtain ⟨d, rfl⟩ : ∃ d, g = r + d := ⟨g - r, by omega⟩
  have h1 : r - d ≤ N / (r + d) := by
    rw [Nat.le_div_iff_mul_le h0]
    rcases Nat.lt_or_ge r d with q | q
    · rw [show r - d = 0 by omega, Nat.zero_mul]; exact Nat.zero_le _
    · obtain ⟨x, rfl⟩ : ∃ x, r = d + x := ⟨r - d, by omega⟩
      rw [show d + x - d = x by omega]
      have := q15 d x
      omega
  omega
theorem nw_half {N r g : Nat} (hr : N < (r + 1) * (r + 1)) (hg : r < g) : (g + N / g) / 2 ≤ r + (g - r) / 2 := by
  obtain ⟨d, rfl⟩ : ∃ d, g = r + 1 + d := ⟨g - r - 1, by omega⟩
  have h1 : N / (r + 1 + d) < r + 1 := by
    rw [Nat.div_lt_iff_lt_mul (by omega)]
    have : (r + 1) * (r + 1) ≤ (r + 1) * (r + 1 + d) := Nat.mul_le_mul_left _ (by omega)
    omega
  omega
/-! the top index -/
def topF (a c : Nat) : Nat → Nat → Nat
  | 0, n => n
  | f+1, n => if c < Rr a n then topF a c f (n+1) else n
def topN (a c most : Nat) : Nat := topF a c most 0
theorem topF_sp (a c : Nat) : ∀ f n, n ≤ topF a c f n ∧ topF a c f n ≤ n + f ∧ (∀ i, n ≤ i → i < topF a c f n → c < Rr a i) ∧ (topF a c f n < n + f → Rr a (topF a c f n) ≤ c) := by
  intro f
  induction f with
  | zero => intro n; unfold topF; exact ⟨Nat.le_refl _, Nat.le_refl _, fun i h1 h2 => by omega, fun h => by omega⟩
  | succ f ih =>
    intro n
    unfold topF
    by_cases h : c < Rr a n
    · rw [if_pos h]
      obtain ⟨h1, h2, h3, h4⟩ := ih (n+1)
      refine ⟨by omega, by omega, fun i q1 q2 => ?_, fun q => h4 (by omega)⟩
      by_cases e : i = n
      · rw [e]; exact h
      · exact h3 i (by omega) q2
    · rw [if_neg h]
      exact ⟨Nat.le_refl _, by omega, fun i h1 h2 => by omega, fun _ => by omega⟩
theorem topN_le (a c most : Nat) : topN a c most ≤ most := by have := (topF_sp a c most 0).2.1; unfold topN; omega
theorem topN_up {a c most i : Nat} (h : i < topN a c most) : c < Rr a i := (topF_sp a c most 0).2.2.1 i (Nat.zero_le _) h
theorem topN_at {a c most : Nat} (h : topN a c most < most) : Rr a (topN a c most) ≤ c := (topF_sp a c most 0).2.2.2 (by unfold topN at h; omega)
theorem topN_un {a c most n : Nat} (h1 : n ≤ most) (h2 : ∀ i, i < n → c < Rr a i) (h3 : n < most → Rr a n ≤ c) : n = topN a c most := by
  rcases Nat.lt_trichotomy n (topN a c most) with q | q | q
  · have := topN_up q
    have := h3 (Nat.lt_of_lt_of_le q (topN_le a c most))
    omega
  · exact q
  · have := h2 _ q
    have := topN_at (a := a) (c := c) (most := most) (by omega)
    omega
theorem topN_min {a c most : Nat} (h : most ≤ 999) : topN a c most = min (topN a c 999) most := by
  refine (topN_un (by omega) (fun i hi => topN_up (Nat.lt_of_lt_of_le hi (Nat.min_le_left _ _))) (fun hm => ?_)).symm
  rw [show min (topN a c 999) most = topN a c 999 by omega]
  exact topN_at (by omega)
def itv (a c n : Nat) : Nat := max (Rr a n) c
/-! sums -/
def sumN (h : Nat → Nat) : Nat → Nat
  | 0 => 0
  | n+1 => sumN h n + h n
theorem sumN_s (h : Nat → Nat) (n : Nat) : sumN h (n+1) = h 0 + sumN (fun i => h (i+1)) n := by
  induction n with
  | zero => simp [sumN]
  | succ n ih => rw [sumN, ih, sumN]; omega
theorem sumN_c {h h' : Nat → Nat} {n : Nat} (e : ∀ i, i < n → h i = h' i) : sumN h n = sumN h' n := by
  induction n with
  | zero => rfl
  | succ n ih => rw [sumN, sumN, ih (fun i hi => e i (by omega)), e n (by omega)]
theorem sumN_mono (h : Nat → Nat) {n m : Nat} (q : n ≤ m) : sumN h n ≤ sumN h m := by
  induction m with
  | zero => rw [show n = 0 by omega]; exact Nat.le_refl _
  | succ m ih =>
    by_cases e : n = m + 1
    · rw [e]; exact Nat.le_refl _
    · have := ih (by omega); rw [sumN]; omega
/-- up and down the ramp -/
theorem ud_mv : ∀ (n : Nat) (g : Nat → Nat), sumN (fun k => g (min k (n - 1 - k))) n = sumN (fun j => g (j / 2)) n ∧ sumN (fun k => g (min k (n + 1 - 1 - k))) (n+1) = sumN (fun j => g (j / 2)) (n+1) := by
  have two : ∀ (n : Nat) (g : Nat → Nat), sumN (fun k => g (min k (n - 1 - k))) n = sumN (fun j => (fun i => g i) (j / 2)) n → (∀ g' : Nat → Nat, sumN (fun k => g' (min k (n - 1 - k))) n = sumN (fun j => g' (j / 2)) n) → sumN (fun k => g (min k (n + 2 - 1 - k))) (n+2) = sumN (fun j => g (j / 2)) (n+2) := by
    intro n g _ ih
    rw [sumN, sumN_s, sumN_s, sumN_s]
    have e1 : sumN (fun i => g (min (i + 1) (n + 2 - 1 - (i + 1)))) n = sumN (fun k => (fun i => g (i + 1)) (min k (n - 1 - k))) n := sumN_c (fun i hi => by
      show g _ = g _
      congr 1
      omega)
    have e2 : sumN (fun i => g ((i + 1 + 1) / 2)) n = sumN (fun j => (fun i => g (i + 1)) (j / 2)) n := sumN_c (fun i hi => by
      show g _ = g _
      congr 1
      omega)
    rw [e1, e2, ih (fun i => g (i+1))]
    have e3 : g (min (n + 1) (n + 2 - 1 - (n + 1))) = g 0 := by congr 1; omega
    have e4 : g (min 0 (n + 2 - 1 - 0)) = g 0 := by congr 1
    rw [e3, e4]
    generalize sumN (fun j => (fun i => g (i + 1)) (j / 2)) n = S
    show g 0 + S + g 0 = g 0 + (g 0 + S)
    omega
  intro n
  induction n with
  | zero =>
    intro g
    refine ⟨rfl, ?_⟩
    simp [sumN]
  | succ n ih =>
    intro g
    refine ⟨(ih g).2, ?_⟩
    exact two n g (ih g).1 (fun g' => (ih g').1)
def mv (a c len : Nat) : Nat := sumN (fun j => itv a c (min (j / 2) (topN a c 999))) len
theorem mv_ud (a c len : Nat) : sumN (fun k => itv a c (min (min k (len - 1 - k)) (topN a c 999))) len = mv a c len := (ud_mv len (fun i => itv a c (min i (topN a c 999)))).1
theorem mv_mono (a c : Nat) {n m : Nat} (h : n ≤ m) : mv a c n ≤ mv a c m := sumN_mono _ h
theorem mv_closed (a c : Nat) {tp : Nat} (htp : ∀ i, i < tp → c < Rr a i) : ∀ len, sumN (fun j => itv a c (min (j / 2) tp)) len = 2 * T a (min (len / 2) tp) + (len - 2 * min (len / 2) tp) * itv a c (min (len / 2) tp) := by
  intro len
  induction len with
  | zero => simp [sumN, T_0]
  | succ len ih =>
    rw [sumN, ih]
    rcases Nat.lt_or_ge (len / 2) tp with q | q
    · rw [show min (len / 2) tp = len / 2 by omega]
      rcases Nat.mod_two_eq_zero_or_one len with e | e
      · rw [show min ((len + 1) / 2) tp = len / 2 by omega, show len - 2 * (len / 2) = 0 by omega, show len + 1 - 2 * (len / 2) = 1 by omega]
        omega
      · rw [show min ((len + 1) / 2) tp = len / 2 + 1 by omega, show len - 2 * (len / 2) = 1 by omega, show len + 1 - 2 * (len / 2 + 1) = 0 by omega, T_R]
        have h1 := htp _ q
        have h2 : itv a c (len / 2) = Rr a (len / 2) := by unfold itv; omega
        omega
    · rw [show min (len / 2) tp = tp by omega, show min ((len + 1) / 2) tp = tp by omega, show len + 1 - 2 * tp = (len - 2 * tp) + 1 by omega, Nat.add_mul]
      omega
theorem mv_ge (a c len : Nat) : len * c ≤ mv a c len := by
  induction len with
  | zero => simp
  | succ n ih =>
    have e : mv a c (n+1) = mv a c n + itv a c (min (n / 2) (topN a c 999)) := rfl
    have : c ≤ itv a c (min (n / 2) (topN a c 999)) := Nat.le_max_right _ _
    rw [e, Nat.add_mul, Nat.one_mul]
    omega
theorem mv_bd {a c : Nat} (ha : 1 ≤ a) (hc : c ≤ 10000) (len : Nat) (hl : len ≤ 999) : mv a c len ≤ len * 447213 := by
  have : ∀ n, n ≤ len → mv a c n ≤ n * 447213 := by
    intro n
    induction n with
    | zero => intro _; simp [mv, sumN]
    | succ n ih =>
      intro h
      have e : mv a c (n+1) = mv a c n + itv a c (min (n / 2) (topN a c 999)) := rfl
      have h1 := T_bd (a := a) (n := min (n / 2) (topN a c 999) + 1) ha (by omega)
      have h2 : itv a c (min (n / 2) (topN a c 999)) ≤ 447213 := by unfold itv Rr; omega
      have := ih (by omega)
      rw [e, Nat.add_mul, Nat.one_mul]
      omega
  exact this len (Nat.le_refl _)
/-- a move's ticks against the root of half its length -/
theorem mv_root {a c : Nat} (ha : 1 ≤ a) (len : Nat) (hl : len ≤ 999) : 2 * T a (len / 2) * c ≤ mv a c len * (c + 1) := by
  have hcl : mv a c len = _ := mv_closed a c (tp := topN a c 999) (fun i hi => topN_up hi) len
  rw [hcl]
  rcases Nat.lt_or_ge (topN a c 999) (len / 2) with q | q
  · rw [show min (len / 2) (topN a c 999) = topN a c 999 by omega]
    have hR : ∀ d, T a (topN a c 999 + d) ≤ T a (topN a c 999) + d * (c + 1) := by
      intro d
      induction d with
      | zero => simp
      | succ d ih =>
        have h1 := T_R a (topN a c 999 + d)
        have h2 := R_flat (n := topN a c 999) (m := topN a c 999 + d) ha (by omega)
        have h3 := topN_at (a := a) (c := c) (most := 999) (by omega)
        rw [← Nat.add_assoc, h1, Nat.add_mul, Nat.one_mul]
        omega
    obtain ⟨d, hd⟩ : ∃ d, len / 2 = topN a c 999 + d := ⟨len / 2 - topN a c 999, by omega⟩
    have h1 := hR d
    rw [← hd] at h1
    generalize topN a c 999 = tp at *
    generalize T a (len / 2) = A at *
    generalize T a tp = B at *
    have h2 : c ≤ itv a c tp := Nat.le_max_right _ _
    have h3 : 2 * d * c ≤ (len - 2 * tp) * itv a c tp := Nat.mul_le_mul (by omega) h2
    have h4 : (2 * B + 2 * d * c) * (c + 1) ≤ (2 * B + (len - 2 * tp) * itv a c tp) * (c + 1) := Nat.mul_le_mul_right _ (by omega)
    have h5 : 2 * A * c ≤ 2 * (B + d * (c + 1)) * c := Nat.mul_le_mul_right _ (by omega)
    have e1 := q16 B d c
    have e2 := q17 B d c
    omega
  · rw [show min (len / 2) (topN a c 999) = len / 2 by omega, Nat.add_mul]
    have : 2 * T a (len / 2) * c ≤ 2 * T a (len / 2) * (c + 1) := Nat.mul_le_mul_left _ (by omega)
    omega
