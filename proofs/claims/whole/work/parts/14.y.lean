theorem P_perm {D : va_G} {cl : List vw_C} {ws ws' : va_W} {H : Heap} (h : ws.Perm ws') (hP : va_P D cl ws H) : va_P D cl ws' H := by
  intro k q hk
  obtain ⟨i, hi⟩ := List.getElem?_of_mem (h.mem_iff.mpr (List.mem_of_getElem? hk))
  exact hP i q hi
theorem D_iff {A : Nat → Prop} {ws : va_W} : va_D A ws ↔ (ws.map Prod.fst).Nodup ∧ ∀ q ∈ ws, A q.1 := by
  constructor
  · intro h
    refine ⟨List.nodup_iff_pairwise_ne.mpr (List.pairwise_iff_getElem.mpr ?_), fun q hq => ?_⟩
    · intro i j hi hj hij e
      have hi' : i < ws.length := by simpa using hi
      have hj' : j < ws.length := by simpa using hj
      rw [List.getElem_map, List.getElem_map] at e
      have := h.1 i j ws[i] ws[j] (List.getElem?_eq_getElem hi') (List.getElem?_eq_getElem hj') e
      omega
    · obtain ⟨i, hi⟩ := List.getElem?_of_mem hq
      exact h.2 i q hi
  · intro h
    refine ⟨fun i j p q hi hj hpq => ?_, fun k q hk => h.2 q (List.mem_of_getElem? hk)⟩
    have hn := List.pairwise_iff_getElem.mp (List.nodup_iff_pairwise_ne.mp h.1)
    obtain ⟨li, ei⟩ := List.getElem?_eq_some_iff.mp hi
    obtain ⟨lj, ej⟩ := List.getElem?_eq_some_iff.mp hj
    have li' : i < (ws.map Prod.fst).length := by simpa using li
    have lj' : j < (ws.map Prod.fst).length := by simpa using lj
    rcases Nat.lt_trichotomy i j with z | z | z
    · exact absurd (by rw [List.getElem_map, List.getElem_map, ei, ej, hpq]) (hn i j li' lj' z)
    · exact z
    · exact absurd (by rw [List.getElem_map, List.getElem_map, ei, ej, hpq]) (hn j i lj' li' z)
theorem D_perm {A : Nat → Prop} {ws ws' : va_W} (h : ws.Perm ws') (hD : va_D A ws) : va_D A ws' := by
  obtain ⟨h1, h2⟩ := D_iff.mp hD
  exact D_iff.mpr ⟨(h.map Prod.fst).nodup_iff.mp h1, fun q hq => h2 q (h.mem_iff.mpr hq)⟩
theorem fst_map (wc wr : va_W) : (List.range wc.length).map (fun i => (wc ++ wr)[i]?) = wc.map some := by
  apply List.ext_getElem?
  intro j
  by_cases h : j < wc.length
  · simp [h, List.getElem?_append_left h]
  · simp [h]
theorem fr_app : ∀ (w1 wc pre wr : va_W), w1.length = wc.length → fr_set (pre ++ (wc ++ wr)) (List.range' pre.length w1.length) w1 = pre ++ (w1 ++ wr) := by
  intro w1
  induction w1 with
  | nil =>
    intro wc pre wr h
    have : wc = [] := List.length_eq_zero_iff.mp h.symm
    subst this
    rfl
  | cons q w1 ih =>
    intro wc pre wr h
    cases wc with
    | nil => cases h
    | cons x wc =>
      have h' : w1.length = wc.length := by simpa using h
      have e : (pre ++ (x :: wc ++ wr)).set pre.length q = (pre ++ [q]) ++ (wc ++ wr) := by
        rw [List.set_append_right _ _ (Nat.le_refl _), Nat.sub_self]
        simp
      show fr_set ((pre ++ (x :: wc ++ wr)).set pre.length q) (List.range' (pre.length + 1) w1.length) w1 = _
      rw [e]
      have h2 := ih wc (pre ++ [q]) wr h'
      rw [List.length_append] at h2
      have h3 : pre.length + [q].length = pre.length + 1 := rfl
      rw [h3] at h2
      rw [h2]
      simp
theorem fr_fst (wc w1 wr : va_W) (h : w1.length = wc.length) : fr_set (wc ++ wr) (List.range w1.length) w1 = w1 ++ wr := by
  rw [List.range_eq_range']
  exact fr_app w1 wc [] wr h
