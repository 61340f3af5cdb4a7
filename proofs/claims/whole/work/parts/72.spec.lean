/-! THE WORLD AND ITS ROUNDS, as numbers -/
/-- rules, how many, what is said of each (0 letter, 1 less, 2 anger, 3 out), what is told (bounded) -/
abbrev wW : Type := (Nat → Int) × Nat × (Nat → Nat → Int) × (Nat → Nat → Int)
def wR (w : wW) (j : Nat) : Int := w.1 j
def wN (w : wW) : Nat := w.2.1
def wA (w : wW) (j k : Nat) : Int := w.2.2.1 j k
def wT (w : wW) (k t : Nat) : Int := w.2.2.2 k t
theorem mul_bd {a b A B : Int} (h1 : 0 ≤ a) (h2 : a ≤ A) (h3 : 0 ≤ b) (h4 : b ≤ B) : 0 ≤ a * b ∧ a * b ≤ A * B :=
  ⟨Int.mul_nonneg h1 h3, Int.mul_le_mul h2 h4 h3 (Int.le_trans h1 h2)⟩
/-- what is told, bounded -/
def nT (E c : Int) : Int := if c = -9 then -9 else max 0 (min c E)
/-- how many are in -/
def cN (w : wW) (t : Nat) : Int := sm (wN w) (fun k => if (t : Int) < wA w 3 k then 1 else 0)
def wOk (w : wW) : Prop := (2 ≤ wN w ∧ wN w ≤ 6) ∧ (1 ≤ wR w 0 ∧ wR w 0 ≤ 20) ∧ (0 ≤ wR w 1 ∧ wR w 1 ≤ 60) ∧ (0 ≤ wR w 2 ∧ wR w 2 ≤ 9) ∧ (1 ≤ wR w 3 ∧ wR w 3 ≤ 9) ∧ (∀ k, k < wN w → (0 ≤ wA w 0 k ∧ wA w 0 k ≤ 6) ∧ (0 ≤ wA w 1 k ∧ wA w 1 k ≤ 20) ∧ (0 ≤ wA w 2 k ∧ wA w 2 k ≤ 9) ∧ (0 ≤ wA w 3 k ∧ wA w 3 k ≤ 40)) ∧ (∀ k t, k < wN w → t < 40 → wT w k t = -9 ∨ (0 ≤ wT w k t ∧ wT w k t ≤ wR w 0)) ∧ 2 ≤ cN w 39
def bnd (w : wW) (v : Int) : Int := max 0 (min v (wR w 0))
/-- what the others that are in put before, and how many they are -/
def sO (w : wW) (t k : Nat) (p : Nat → Int) : Int := sm (wN w) (fun e => if ¬ e = k ∧ (t : Int) < wA w 3 e then p e else 0)
def cO (w : wW) (t k : Nat) : Int := sm (wN w) (fun e => if ¬ e = k ∧ (t : Int) < wA w 3 e then 1 else 0)
def usP (w : wW) (t : Nat) (p : Nat → Int) (q : Nat → Nat → Int) (k : Nat) : Int :=
  if wA w 0 k = 0 then wA w 1 k else if wA w 0 k = 1 then 0 else if t = 0 then wR w 0 / 2
  else if wA w 0 k = 6 then (if 0 < sm (wN w) (fun e => q e k) then p k + wR w 2 * sm (wN w) (fun e => q e k) else p k - wA w 1 k)
  else sO w t k p / cO w t k - wA w 1 k
def ptP (w : wW) (t : Nat) (p : Nat → Int) (q : Nat → Nat → Int) (k : Nat) : Int :=
  if (t : Int) < wA w 3 k then (if wT w k t = -9 then bnd w (usP w t p q k) else wT w k t) else 0
def poV (w : wW) (t : Nat) (p : Nat → Int) : Int := sm (wN w) (fun k => if (t : Int) < wA w 3 k then p k else 0)
def meV (w : wW) (t : Nat) (p : Nat → Int) : Int := poV w t p / cN w t
def agV (w : wW) (k : Nat) (d : Int) : Int := if 0 < d then min 9 (d * wA w 2 k / 9) else 0
/-- the first that puts most beside one, among m -/
def grV (w : wW) (t : Nat) (p : Nat → Int) (k : Nat) : Nat → Int
  | 0 => -9
  | m + 1 => if ¬ m = k ∧ (t : Int) < wA w 3 m ∧ (grV w t p k m = -9 ∨ p (grV w t p k m).toNat < p m) then (m : Int) else grV w t p k m
def pyP (w : wW) (t : Nat) (p : Nat → Int) (q : Nat → Nat → Int) (k e : Nat) : Int :=
  if wR w 2 ≤ 0 then 0 else if k = e then 0 else if ¬ (t : Int) < wA w 3 k then 0 else if ¬ (t : Int) < wA w 3 e then 0
  else if wA w 0 k = 3 then agV w k (meV w t p - p e)
  else if wA w 0 k = 4 then (if (e : Int) = grV w t p k (wN w) then agV w k (p e - meV w t p) else 0)
  else if wA w 0 k = 5 then min 9 (agV w k (meV w t p - p e) + q e k)
  else 0
/-- puts and payments of the round before t -/
def St (w : wW) : Nat → (Nat → Int) × (Nat → Nat → Int)
  | 0 => (fun _ => 0, fun _ _ => 0)
  | t + 1 => (ptP w t (St w t).1 (St w t).2, pyP w t (ptP w t (St w t).1 (St w t).2) (St w t).2)
def pu (w : wW) (t : Nat) : Nat → Int := ptP w t (St w t).1 (St w t).2
def pa (w : wW) (t : Nat) : Nat → Nat → Int := pyP w t (pu w t) (St w t).2
theorem St_s (w : wW) (t : Nat) : St w (t + 1) = (pu w t, pa w t) := rfl
/-- what is lost by fines -/
def loV (w : wW) (d : Nat → Nat → Int) (k : Nat) : Int := wR w 3 * sm (wN w) (fun e => d k e) + wR w 2 * sm (wN w) (fun e => d e k)
def shV (w : wW) (t : Nat) (p : Nat → Int) : Int := poV w t p * wR w 1 * 60 / cN w t
def geV (w : wW) (t : Nat) (p : Nat → Int) (d : Nat → Nat → Int) (k : Nat) : Int := 600 * (wR w 0 - p k) + shV w t p - 600 * loV w d k
/-- what one holds and has lost before round t -/
def hoV (w : wW) : Nat → Nat → Int
  | 0, _ => 0
  | t + 1, k => hoV w t k + (if (t : Int) < wA w 3 k then geV w t (pu w t) (pa w t) k else 0)
def lsV (w : wW) : Nat → Nat → Int
  | 0, _ => 0
  | t + 1, k => lsV w t k + (if (t : Int) < wA w 3 k then loV w (pa w t) k else 0)
/-! bounds -/
def pOk (w : wW) (p : Nat → Int) : Prop := ∀ k, k < wN w → 0 ≤ p k ∧ p k ≤ 20
def qOk (w : wW) (q : Nat → Nat → Int) : Prop := ∀ k e, k < wN w → e < wN w → 0 ≤ q k e ∧ q k e ≤ 9
theorem ptP_bd {w : wW} (hw : wOk w) {t : Nat} (ht : t < 40) (p : Nat → Int) (q : Nat → Nat → Int) : pOk w (ptP w t p q) := by
  obtain ⟨hn, hE, _, _, _, hA, hT, _⟩ := hw
  intro k hk
  have := hT k t hk ht
  unfold ptP bnd
  split
  · split <;> omega
  · omega
theorem agV_bd {w : wW} {k : Nat} (hA : 0 ≤ wA w 2 k) (d : Int) : 0 ≤ agV w k d ∧ agV w k d ≤ 9 := by
  unfold agV
  split
  · have h : 0 ≤ d * wA w 2 k := Int.mul_nonneg (by omega) hA
    have h2 : 0 ≤ d * wA w 2 k / 9 := Int.ediv_nonneg h (by omega)
    omega
  · omega
theorem pyP_bd {w : wW} (hw : wOk w) {t : Nat} (p : Nat → Int) {q : Nat → Nat → Int} (hq : qOk w q) : qOk w (pyP w t p q) := by
  obtain ⟨hn, hE, _, _, _, hA, hT, _⟩ := hw
  intro k e hk he
  have h1 := agV_bd (w := w) (k := k) (hA k hk).2.2.1.1 (meV w t p - p e)
  have h2 := agV_bd (w := w) (k := k) (hA k hk).2.2.1.1 (p e - meV w t p)
  have h3 := hq e k he hk
  unfold pyP
  repeat' split
  all_goals omega
theorem pyP_0 {w : wW} (h : wR w 2 ≤ 0) (t : Nat) (p : Nat → Int) (q : Nat → Nat → Int) (k e : Nat) : pyP w t p q k e = 0 := if_pos h
theorem pyP_out {w : wW} {t k : Nat} (h : ¬ (t : Int) < wA w 3 k) (p : Nat → Int) (q : Nat → Nat → Int) (e : Nat) : pyP w t p q k e = 0 ∧ pyP w t p q e k = 0 := by
  unfold pyP
  constructor
  · repeat' split
    all_goals first | rfl | omega
  · repeat' split
    all_goals first | rfl | omega
theorem St_1 {w : wW} (hw : wOk w) : ∀ {t : Nat}, t ≤ 40 → pOk w (St w t).1
  | 0, _ => fun k _ => ⟨Int.le_refl 0, (by decide : (0 : Int) ≤ 20)⟩
  | t + 1, h => ptP_bd hw (by omega) _ _
theorem St_2 {w : wW} (hw : wOk w) : ∀ (t : Nat), qOk w (St w t).2
  | 0 => fun k e _ _ => ⟨Int.le_refl 0, (by decide : (0 : Int) ≤ 9)⟩
  | t + 1 => pyP_bd hw _ (St_2 hw t)
theorem St_F {w : wW} (h : wR w 2 ≤ 0) : ∀ (t k e : Nat), (St w t).2 k e = 0
  | 0, _, _ => rfl
  | t + 1, k, e => pyP_0 h t _ _ k e
theorem pu_bd {w : wW} (hw : wOk w) {t : Nat} (ht : t < 40) : pOk w (pu w t) := ptP_bd hw ht _ _
theorem pa_bd {w : wW} (hw : wOk w) (t : Nat) : qOk w (pa w t) := pyP_bd hw _ (St_2 hw t)
theorem sm_pw {f g : Nat → Int} : ∀ n, (∀ k, k < n → f k ≤ g k) → sm n f ≤ sm n g
  | 0, _ => Int.le_refl _
  | n + 1, h => by
    have a := sm_pw n (fun k hk => h k (by omega))
    have b := h n (by omega)
    rw [sm_s, sm_s]; omega
theorem cN_bd {w : wW} (hw : wOk w) {t : Nat} (ht : t < 40) : 2 ≤ cN w t ∧ cN w t ≤ 6 := by
  obtain ⟨hn, _, _, _, _, _, _, h39⟩ := hw
  constructor
  · refine Int.le_trans h39 (sm_pw _ ?_)
    intro k _
    show (if ((39 : Nat) : Int) < wA w 3 k then (1 : Int) else 0) ≤ (if (t : Int) < wA w 3 k then 1 else 0)
    split <;> split <;> omega
  · have := sm_le (f := fun k => if (t : Int) < wA w 3 k then 1 else 0) (B := 1) (by omega) (wN w) hn.2 (fun k _ => by show (if (t : Int) < wA w 3 k then (1 : Int) else 0) ≤ 1; split <;> omega)
    exact this
theorem sm_but (f : Nat → Int) (P : Nat → Prop) [∀ k, Decidable (P k)] (k : Nat) : ∀ n, sm n (fun e => if ¬ e = k ∧ P e then f e else 0) + (if k < n ∧ P k then f k else 0) = sm n (fun e => if P e then f e else 0)
  | 0 => by simp [sm_0]
  | n + 1 => by
    have h := sm_but f P k n
    rw [sm_s, sm_s, ← h]
    by_cases hk : n = k
    · subst hk
      simp only [not_true_eq_false, false_and, ↓reduceIte, Nat.lt_irrefl, Nat.lt_add_one, true_and]
      try omega
    · have e1 : (k < n + 1 ∧ P k) = (k < n ∧ P k) := propext ⟨fun ⟨a, b⟩ => ⟨by omega, b⟩, fun ⟨a, b⟩ => ⟨by omega, b⟩⟩
      simp only [e1, hk, not_false_eq_true, true_and]
      omega
theorem cO_bd {w : wW} (hw : wOk w) {t : Nat} (ht : t < 40) (k : Nat) : 1 ≤ cO w t k ∧ cO w t k ≤ 6 := by
  have h := cN_bd hw ht
  have e := sm_but (fun _ => 1) (fun e => (t : Int) < wA w 3 e) k (wN w)
  have e2 : cO w t k + (if k < wN w ∧ (t : Int) < wA w 3 k then 1 else 0) = cN w t := e
  split at e2 <;> omega
theorem sO_bd {w : wW} (hw : wOk w) (t k : Nat) {p : Nat → Int} (hp : pOk w p) : 0 ≤ sO w t k p ∧ sO w t k p ≤ 120 := by
  constructor
  · refine sm_ge _ (fun e he => ?_)
    have := hp e he
    show 0 ≤ (if ¬ e = k ∧ (t : Int) < wA w 3 e then p e else 0)
    split <;> omega
  · refine sm_le (B := 20) (by omega) _ hw.1.2 (fun e he => ?_)
    have := hp e he
    show (if ¬ e = k ∧ (t : Int) < wA w 3 e then p e else 0) ≤ 20
    split <;> omega
theorem poV_bd {w : wW} (hw : wOk w) (t : Nat) {p : Nat → Int} (hp : pOk w p) : 0 ≤ poV w t p ∧ poV w t p ≤ 120 := by
  constructor
  · refine sm_ge _ (fun e he => ?_)
    have := hp e he
    show 0 ≤ (if (t : Int) < wA w 3 e then p e else 0)
    split <;> omega
  · refine sm_le (B := 20) (by omega) _ hw.1.2 (fun e he => ?_)
    have := hp e he
    show (if (t : Int) < wA w 3 e then p e else 0) ≤ 20
    split <;> omega
theorem dv_bd {a b B : Int} (h : 0 ≤ a) (h2 : a ≤ B) (hb : 0 < b) : 0 ≤ a / b ∧ a / b ≤ B := by
  have h0 : 0 ≤ a / b := Int.ediv_nonneg h (by omega)
  have h1 : a / b ≤ a := Int.ediv_le_self b h
  omega
theorem meV_bd {w : wW} (hw : wOk w) {t : Nat} (ht : t < 40) {p : Nat → Int} (hp : pOk w p) : 0 ≤ meV w t p ∧ meV w t p ≤ 120 := by
  have h := poV_bd hw t hp
  have c := cN_bd hw ht
  exact dv_bd h.1 h.2 (by omega)
theorem smq_bd {w : wW} (hw : wOk w) {q : Nat → Nat → Int} (hq : qOk w q) {k : Nat} (hk : k < wN w) : (0 ≤ sm (wN w) (fun e => q k e) ∧ sm (wN w) (fun e => q k e) ≤ 54) ∧ (0 ≤ sm (wN w) (fun e => q e k) ∧ sm (wN w) (fun e => q e k) ≤ 54) :=
  ⟨⟨sm_ge _ (fun e he => (hq k e hk he).1), sm_le (B := 9) (by omega) _ hw.1.2 (fun e he => (hq k e hk he).2)⟩, ⟨sm_ge _ (fun e he => (hq e k he hk).1), sm_le (B := 9) (by omega) _ hw.1.2 (fun e he => (hq e k he hk).2)⟩⟩
theorem grV_bd (w : wW) (t : Nat) (p : Nat → Int) (k : Nat) : ∀ m, grV w t p k m = -9 ∨ (0 ≤ grV w t p k m ∧ grV w t p k m < m ∧ ¬ grV w t p k m = k ∧ (t : Int) < wA w 3 (grV w t p k m).toNat)
  | 0 => Or.inl rfl
  | m + 1 => by
    have h := grV_bd w t p k m
    show (if _ then (m : Int) else _) = -9 ∨ _
    by_cases c : ¬ m = k ∧ (t : Int) < wA w 3 m ∧ (grV w t p k m = -9 ∨ p (grV w t p k m).toNat < p m)
    · have e : grV w t p k (m + 1) = (m : Int) := if_pos c
      rw [if_pos c, e]
      exact Or.inr ⟨by omega, by omega, by omega, by rw [Int.toNat_natCast]; exact c.2.1⟩
    · have e : grV w t p k (m + 1) = grV w t p k m := if_neg c
      rw [if_neg c, e]
      rcases h with h | h
      · exact Or.inl h
      · exact Or.inr ⟨h.1, by omega, h.2.2⟩
theorem loV_bd {w : wW} (hw : wOk w) {d : Nat → Nat → Int} (hd : qOk w d) {k : Nat} (hk : k < wN w) : 0 ≤ loV w d k ∧ loV w d k ≤ 972 := by
  have h := smq_bd hw hd hk
  obtain ⟨hn, hE, _, hF, hC, _⟩ := hw
  have a := mul_bd (by omega) hC.2 h.1.1 h.1.2
  have b := mul_bd hF.1 hF.2 h.2.1 h.2.2
  unfold loV
  omega
theorem hoV_out {w : wW} {k : Nat} (h : wA w 3 k ≤ 0) : ∀ t, hoV w t k = 0
  | 0 => rfl
  | t + 1 => by
    show hoV w t k + (if (t : Int) < wA w 3 k then _ else 0) = 0
    rw [hoV_out h t, if_neg (by omega)]
    rfl
