section PM
variable {α : Type} (c a t g g2 h z : List α)
theorem pm_s : (a ++ (t ++ z)).Perm (t ++ (a ++ z)) := List.perm_append_comm_assoc a t z
theorem pm_a : (c ++ (a ++ z)).Perm (a ++ (c ++ z)) := pm_s c a z
theorem pm_t : (c ++ (a ++ (t ++ z))).Perm (t ++ (c ++ (a ++ z))) := ((pm_s a t z).append_left c).trans (pm_s c t (a ++ z))
theorem pm_ta : (c ++ (a ++ (t ++ z))).Perm ((t ++ a) ++ (c ++ z)) := by
  rw [List.append_assoc]
  exact (pm_t c a t z).trans ((pm_s c a z).append_left t)
theorem pm_at : (c ++ (a ++ (t ++ z))).Perm ((a ++ t) ++ (c ++ z)) := by
  rw [List.append_assoc]
  exact (pm_s c a (t ++ z)).trans ((pm_s c t z).append_left a)
theorem pm_i0 : (c ++ (a ++ (t ++ (h ++ z)))).Perm (c ++ (a ++ (h ++ (t ++ z)))) := ((pm_s t h z).append_left a).append_left c
theorem pm_i1 : (c ++ (a ++ (t ++ (g ++ (h ++ z))))).Perm (c ++ (a ++ (h ++ (t ++ (g ++ z))))) := ((((pm_s g h z).append_left t).append_left a).append_left c).trans (pm_i0 c a t h (g ++ z))
theorem pm_i2 : (c ++ (a ++ (t ++ (g ++ (g2 ++ (h ++ z)))))).Perm (c ++ (a ++ (h ++ (t ++ (g ++ (g2 ++ z)))))) := (((((pm_s g2 h z).append_left g).append_left t).append_left a).append_left c).trans (pm_i1 c a t g h (g2 ++ z))
theorem pm_i3 : (c ++ (a ++ (t ++ (g ++ (g2 ++ (z ++ h)))))).Perm (c ++ (a ++ (h ++ (t ++ (g ++ (g2 ++ z)))))) := ((((((List.perm_append_comm (l₁ := z) (l₂ := h)).append_left g2).append_left g).append_left t).append_left a).append_left c).trans (pm_i2 c a t g g2 h z)
theorem pm_h0a : (c ++ (a ++ (t ++ (h ++ z)))).Perm ((h ++ a) ++ (c ++ (t ++ z))) := (pm_i0 c a t h z).trans (pm_ta c a h _)
theorem pm_h1a : (c ++ (a ++ (t ++ (g ++ (h ++ z))))).Perm ((h ++ a) ++ (c ++ (t ++ (g ++ z)))) := (pm_i1 c a t g h z).trans (pm_ta c a h _)
theorem pm_h2a : (c ++ (a ++ (t ++ (g ++ (g2 ++ (h ++ z)))))).Perm ((h ++ a) ++ (c ++ (t ++ (g ++ (g2 ++ z))))) := (pm_i2 c a t g g2 h z).trans (pm_ta c a h _)
theorem pm_h3a : (c ++ (a ++ (t ++ (g ++ (g2 ++ (z ++ h)))))).Perm ((h ++ a) ++ (c ++ (t ++ (g ++ (g2 ++ z))))) := (pm_i3 c a t g g2 h z).trans (pm_ta c a h _)
theorem pm_ah0 : (c ++ (a ++ (t ++ (h ++ z)))).Perm ((a ++ h) ++ (c ++ (t ++ z))) := (pm_i0 c a t h z).trans (pm_at c a h _)
theorem pm_ah1 : (c ++ (a ++ (t ++ (g ++ (h ++ z))))).Perm ((a ++ h) ++ (c ++ (t ++ (g ++ z)))) := (pm_i1 c a t g h z).trans (pm_at c a h _)
theorem pm_ah2 : (c ++ (a ++ (t ++ (g ++ (g2 ++ (h ++ z)))))).Perm ((a ++ h) ++ (c ++ (t ++ (g ++ (g2 ++ z))))) := (pm_i2 c a t g g2 h z).trans (pm_at c a h _)
theorem pm_ah3 : (c ++ (a ++ (t ++ (g ++ (g2 ++ (z ++ h)))))).Perm ((a ++ h) ++ (c ++ (t ++ (g ++ (g2 ++ z))))) := (pm_i3 c a t g g2 h z).trans (pm_at c a h _)
end PM
