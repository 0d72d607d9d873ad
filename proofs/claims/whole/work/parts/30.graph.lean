/-! GRAPHS: e a b is the length of the open street that joins a and b, 0 if there is none -/
abbrev Gr : Type := Nat → Nat → Nat
def gOK (e : Gr) : Prop := (∀ a b, e a b = e b a) ∧ (∀ a, e a a = 0) ∧ (∀ a b, e a b ≤ 99) ∧ ∀ a b, e a b ≠ 0 → a < 9 ∧ b < 9
def gU : Nat := 1000000
def gSup (K : Nat) (e : Gr) (t : Nat) (d : Nat → Nat) : Prop := d t = 0 ∧ (∀ c, c < 9 → d c ≤ gU) ∧ ∀ c, c < 9 → c ≠ t → d c = gU ∨ ∃ b, e c b ≠ 0 ∧ K * e c b + 1 + d b ≤ d c
def gSta (K : Nat) (e : Gr) (d : Nat → Nat) : Prop := ∀ c b, e c b ≠ 0 → d c ≤ K * e c b + 1 + d b
def gD (K : Nat) (e : Gr) (t : Nat) (d : Nat → Nat) : Prop := gSup K e t d ∧ gSta K e d
theorem gD_le {K : Nat} {e : Gr} {t : Nat} {d d' : Nat → Nat} (he : gOK e) (h : gD K e t d) (h' : gSup K e t d') : ∀ v c, d' c = v → c < 9 → d c ≤ d' c := by
  intro v
  induction v using Nat.strongRecOn with
  | ind v ih =>
    intro c hv hc
    by_cases hct : c = t
    · subst hct
      rw [h.1.1]
      exact Nat.zero_le _
    · rcases h'.2.2 c hc hct with q | ⟨b, hb, hle⟩
      · rw [q]
        exact h.1.2.1 c hc
      · have h1 := ih (d' b) (by omega) b rfl (he.2.2.2 c b hb).2
        have h2 := h.2 c b hb
        omega
theorem gD_uniq {K : Nat} {e : Gr} {t : Nat} {d d' : Nat → Nat} (he : gOK e) (h : gD K e t d) (h' : gD K e t d') : ∀ c, c < 9 → d c = d' c := fun c hc => Nat.le_antisymm (gD_le he h h'.1 _ c rfl hc) (gD_le he h' h.1 _ c rfl hc)
/-- how many are nearer than v -/
def gCnt (d : Nat → Nat) (v : Nat) : Nat := (List.range 9).countP (fun x => decide (d x < v))
theorem countP_lt {l : List Nat} {p q : Nat → Bool} (h : ∀ x ∈ l, p x = true → q x = true) {b : Nat} (hb : b ∈ l) (h1 : p b = false) (h2 : q b = true) : l.countP p + 1 ≤ l.countP q := by
  induction l with
  | nil => cases hb
  | cons a l ih =>
    rw [List.countP_cons, List.countP_cons]
    rcases List.mem_cons.mp hb with rfl | hb'
    · have := List.countP_mono_left (l := l) (p := p) (q := q) (fun x hx => h x (List.mem_cons_of_mem _ hx))
      rw [h1, h2]
      simp
      omega
    · have := ih (fun x hx => h x (List.mem_cons_of_mem _ hx)) hb'
      by_cases hp : p a = true
      · have hq := h a List.mem_cons_self hp
        rw [hp, hq]
        simp
        omega
      · have hp' : p a = false := by simpa using hp
        rw [hp']
        simp
        omega
theorem gCnt_lt {d : Nat → Nat} {b v : Nat} (hb : b < 9) (h : d b < v) : gCnt d (d b) + 1 ≤ gCnt d v := by
  unfold gCnt
  refine countP_lt (b := b) (fun x _ hx => ?_) (List.mem_range.mpr hb) (by simp) (by simpa using h)
  simp only [decide_eq_true_eq] at hx ⊢
  omega
theorem gCnt_le {d : Nat → Nat} {c : Nat} (hc : c < 9) : gCnt d (d c) ≤ 8 := by
  have h1 : gCnt d (d c) + 1 ≤ (List.range 9).countP (fun _ => true) := countP_lt (b := c) (fun _ _ _ => rfl) (List.mem_range.mpr hc) (by simp) rfl
  have h2 : (List.range 9).countP (fun _ => true) = 9 := by decide
  omega
/-- a finite distance is a length and a number of streets -/
theorem gD_parts {K : Nat} {e : Gr} {t : Nat} {d : Nat → Nat} (he : gOK e) (h : gD K e t d) : ∀ v c, d c = v → c < 9 → d c ≠ gU → ∃ L k, d c = K * L + k ∧ k ≤ gCnt d (d c) ∧ L ≤ 99 * gCnt d (d c) := by
  intro v
  induction v using Nat.strongRecOn with
  | ind v ih =>
    intro c hv hc hU
    by_cases hct : c = t
    · subst hct
      exact ⟨0, 0, by rw [h.1.1, Nat.mul_zero], Nat.zero_le _, Nat.zero_le _⟩
    · rcases h.1.2.2 c hc hct with q | ⟨b, hb, hle⟩
      · exact absurd q hU
      · have h2 := h.2 c b hb
        have hb9 := (he.2.2.2 c b hb).2
        have hdc := h.1.2.1 c hc
        obtain ⟨L, k, e1, e2, e3⟩ := ih (d b) (by omega) b rfl hb9 (by omega)
        have h3 := gCnt_lt hb9 (show d b < d c by omega)
        have h4 := he.2.2.1 c b
        refine ⟨e c b + L, k + 1, ?_, by omega, by omega⟩
        rw [Nat.mul_add]
        omega
theorem gD_fin {e : Gr} {t : Nat} {d : Nat → Nat} (he : gOK e) (h : gD 100 e t d) {c : Nat} (hc : c < 9) (hU : d c ≠ gU) : d c % 100 ≤ 8 ∧ d c / 100 ≤ 792 ∧ d c = 100 * (d c / 100) + d c % 100 := by
  obtain ⟨L, k, e1, e2, e3⟩ := gD_parts he h _ c rfl hc hU
  have := gCnt_le (d := d) hc
  omega
theorem gD_fin16 {e : Gr} {t : Nat} {d : Nat → Nat} (he : gOK e) (h : gD 16 e t d) {c : Nat} (hc : c < 9) (hU : d c ≠ gU) : d c % 16 ≤ 8 ∧ d c / 16 ≤ 792 ∧ d c = 16 * (d c / 16) + d c % 16 := by
  obtain ⟨L, k, e1, e2, e3⟩ := gD_parts he h _ c rfl hc hU
  have := gCnt_le (d := d) hc
  omega
/-- the same distance, told with 16 in place of 100 -/
def gConv (d : Nat → Nat) (c : Nat) : Nat := if d c = gU then gU else 16 * (d c / 100) + d c % 100
theorem gConv_D {e : Gr} {t : Nat} {d : Nat → Nat} (he : gOK e) (ht : t < 9) (h : gD 100 e t d) : gD 16 e t (gConv d) := by
  have ht0 : d t = 0 := h.1.1
  refine ⟨⟨?_, ?_, ?_⟩, ?_⟩
  · unfold gConv
    rw [ht0]
    simp [gU]
  · intro c hc
    unfold gConv
    by_cases hU : d c = gU
    · rw [if_pos hU]
      exact Nat.le_refl _
    · rw [if_neg hU]
      obtain ⟨h1, h2, h3⟩ := gD_fin he h hc hU
      unfold gU
      omega
  · intro c hc hct
    by_cases hU : d c = gU
    · left
      unfold gConv
      rw [if_pos hU]
    · right
      rcases h.1.2.2 c hc hct with q | ⟨b, hb, hle⟩
      · exact absurd q hU
      · refine ⟨b, hb, ?_⟩
        have hb9 := (he.2.2.2 c b hb).2
        have hdc := h.1.2.1 c hc
        have hUb : d b ≠ gU := by omega
        obtain ⟨h1, h2, h3⟩ := gD_fin he h hc hU
        obtain ⟨g1, g2, g3⟩ := gD_fin he h hb9 hUb
        have h4 := h.2 c b hb
        unfold gConv
        rw [if_neg hU, if_neg hUb]
        omega
  · intro c b hb
    have hc9 := (he.2.2.2 c b hb).1
    have hb9 := (he.2.2.2 c b hb).2
    have h4 := h.2 c b hb
    have h5 := he.2.2.1 c b
    by_cases hUb : d b = gU
    · have : gConv d b = gU := by
        unfold gConv
        rw [if_pos hUb]
      rw [this]
      have hcU : gConv d c ≤ gU := by
        unfold gConv
        by_cases hU : d c = gU
        · rw [if_pos hU]
          exact Nat.le_refl _
        · rw [if_neg hU]
          obtain ⟨h1, h2, h3⟩ := gD_fin he h hc9 hU
          unfold gU
          omega
      omega
    · obtain ⟨g1, g2, g3⟩ := gD_fin he h hb9 hUb
      have hU : d c ≠ gU := by
        unfold gU
        omega
      obtain ⟨h1, h2, h3⟩ := gD_fin he h hc9 hU
      unfold gConv
      rw [if_neg hU, if_neg hUb]
      omega
/-- both tellings agree -/
theorem gBoth {e : Gr} {t : Nat} {d w : Nat → Nat} (he : gOK e) (ht : t < 9) (h : gD 100 e t d) (hw : gD 16 e t w) : ∀ c, c < 9 → w c = gConv d c := gD_uniq he hw (gConv_D he ht h)
theorem gBoth_U {e : Gr} {t : Nat} {d w : Nat → Nat} (he : gOK e) (ht : t < 9) (h : gD 100 e t d) (hw : gD 16 e t w) {c : Nat} (hc : c < 9) : w c = gU ↔ d c = gU := by
  rw [gBoth he ht h hw c hc]
  unfold gConv
  by_cases hU : d c = gU
  · simp [hU]
  · rw [if_neg hU]
    obtain ⟨h1, h2, h3⟩ := gD_fin he h hc hU
    constructor
    · intro q
      unfold gU at q
      omega
    · intro q
      exact absurd q hU
theorem gBoth_len {e : Gr} {t : Nat} {d w : Nat → Nat} (he : gOK e) (ht : t < 9) (h : gD 100 e t d) (hw : gD 16 e t w) {c : Nat} (hc : c < 9) (hU : d c ≠ gU) : w c / 16 = d c / 100 := by
  rw [gBoth he ht h hw c hc]
  unfold gConv
  rw [if_neg hU]
  obtain ⟨h1, h2, h3⟩ := gD_fin he h hc hU
  omega
/-- who is next on a best way -/
theorem gBoth_next {e : Gr} {t : Nat} {d w : Nat → Nat} (he : gOK e) (ht : t < 9) (h : gD 100 e t d) (hw : gD 16 e t w) {a b : Nat} (ha : a < 9) (hb : e a b ≠ 0) (hU : d a ≠ gU) : 16 * e a b + 1 + w b = w a ↔ 100 * e a b + 1 + d b = d a := by
  have hb9 := (he.2.2.2 a b hb).2
  rw [gBoth he ht h hw a ha, gBoth he ht h hw b hb9]
  have h4 := h.2 a b hb
  have h5 := he.2.2.1 a b
  obtain ⟨h1, h2, h3⟩ := gD_fin he h ha hU
  unfold gConv
  rw [if_neg hU]
  by_cases hUb : d b = gU
  · rw [if_pos hUb]
    have : d b = 1000000 := hUb
    unfold gU
    omega
  · rw [if_neg hUb]
    obtain ⟨g1, g2, g3⟩ := gD_fin he h hb9 hUb
    omega
/-- there is a distance -/
theorem gD_ex {e : Gr} {t : Nat} (K : Nat) (he : gOK e) (ht : t < 9) : ∃ d, gD K e t d := by
  have key : ∀ v (d : Nat → Nat), ((List.range 9).map d).sum = v → gSup K e t d → ∃ d, gD K e t d := by
    intro v
    induction v using Nat.strongRecOn with
    | ind v ih =>
      intro d hv hd
      by_cases hs : gSta K e d
      · exact ⟨d, hd, hs⟩
      · unfold gSta at hs
        have hex : ∃ c b, e c b ≠ 0 ∧ K * e c b + 1 + d b < d c := by
          refine Classical.byContradiction fun hn => hs fun c b hb => ?_
          refine Classical.byContradiction fun hlt => hn ⟨c, b, hb, by omega⟩
        obtain ⟨c, b, hb, hlt⟩ := hex
        have hc9 := (he.2.2.2 c b hb).1
        have hcb : c ≠ b := fun q => hb (by rw [q]; exact he.2.1 b)
        have hct : c ≠ t := fun q => by rw [q, hd.1] at hlt; omega
        refine ih _ ?_ (fun x => if x = c then K * e c b + 1 + d b else d x) rfl ⟨?_, ?_, ?_⟩
        · rw [← hv]
          have gen : ∀ l : List Nat, l.Nodup → c ∈ l → (l.map (fun x => if x = c then K * e c b + 1 + d b else d x)).sum < (l.map d).sum := by
            intro l
            induction l with
            | nil => intro _ h; cases h
            | cons a l ihl =>
              intro hn hm
              have hn' := List.nodup_cons.mp hn
              rw [List.map_cons, List.map_cons, List.sum_cons, List.sum_cons]
              rcases List.mem_cons.mp hm with rfl | hm'
              · rw [if_pos rfl]
                have : l.map (fun x => if x = c then K * e c b + 1 + d b else d x) = l.map d := by
                  refine List.map_congr_left fun x hx => ?_
                  rw [if_neg (fun q => hn'.1 (by rw [← q]; exact hx))]
                rw [this]
                omega
              · have h1 := ihl hn'.2 hm'
                rw [if_neg (fun q => hn'.1 (by rw [q]; exact hm'))]
                omega
          exact gen _ List.nodup_range (List.mem_range.mpr hc9)
        · show (if t = c then K * e c b + 1 + d b else d t) = 0
          rw [if_neg (fun q => hct q.symm), hd.1]
        · intro x hx
          show (if x = c then K * e c b + 1 + d b else d x) ≤ gU
          by_cases q : x = c
          · rw [if_pos q]
            have := hd.2.1 c hc9
            omega
          · rw [if_neg q]
            exact hd.2.1 x hx
        · intro x hx hxt
          show (if x = c then K * e c b + 1 + d b else d x) = gU ∨ _
          by_cases q : x = c
          · right
            refine ⟨b, by rw [q]; exact hb, ?_⟩
            show K * e x b + 1 + (if b = c then K * e c b + 1 + d b else d b) ≤ (if x = c then K * e c b + 1 + d b else d x)
            rw [if_pos q, if_neg (fun z => hcb z.symm), q]
            exact Nat.le_refl _
          · rw [if_neg q]
            rcases hd.2.2 x hx hxt with h1 | ⟨b', hb', hle⟩
            · exact Or.inl h1
            · right
              refine ⟨b', hb', ?_⟩
              show K * e x b' + 1 + (if b' = c then K * e c b + 1 + d b else d b') ≤ (if x = c then K * e c b + 1 + d b else d x)
              rw [if_neg q]
              by_cases q2 : b' = c
              · rw [if_pos q2]
                rw [q2] at hle
                rw [q2]
                omega
              · rw [if_neg q2]
                exact hle
  refine key _ (fun x => if x = t then 0 else gU) rfl ⟨by simp, fun c _ => ?_, fun c _ hct => ?_⟩
  · show (if c = t then 0 else gU) ≤ gU
    by_cases q : c = t
    · rw [if_pos q]
      exact Nat.zero_le _
    · rw [if_neg q]
      exact Nat.le_refl _
  · left
    show (if c = t then 0 else gU) = gU
    rw [if_neg hct]
