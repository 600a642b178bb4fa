/-! new cells -/
def pE2 (E : PE) (n q : Nat) : PE := (E.1, E.2.1, fun a => if a = n then q else E.2.2.1 a, E.2.2.2)
theorem pE2_ext {E : PE} {n q : Nat} (hn : n < 1000) : pm_ext E (pE2 E n q) n := ⟨rfl, rfl, rfl, fun a ha => if_neg (by omega)⟩
theorem pm_ce_ext {E E2 : PE} {S S' : List (Nat × Nat)} {F : Nat → Nat → Option Nat} {h : Nat → Int → Int} {a : Nat} {x : Nat × Nat} (e1 : E2.2.1 = E.2.1) (e2 : ∀ k, (F a k).map E2.2.2.1 = (F a k).map E.2.2.1) : pm_ce E2 (S', F, h) a x = pm_ce E (S, F, h) a x := by
  unfold pm_ce
  have f1 : pm_fv E2 (S', F, h) a x.1 = pm_fv E (S, F, h) a x.1 := by
    funext j
    unfold pm_fv
    show (if _ then _ else va_rf ((F a j).map E2.2.2.1)) = (if _ then _ else va_rf ((F a j).map E.2.2.1))
    rw [e2 j]
  rw [f1, e1]
  show (if _ then _ else if _ then _ else if _ then Sum.inl (E.2.1 3, x.2, Sum.inr (Sum.inr (Sum.inr (Sum.inr (fun j => (F a j).map E2.2.2.1))))) else _) = _
  rw [show (fun j => (F a j).map E2.2.2.1) = (fun j => (F a j).map E.2.2.1) from funext e2]
theorem pm_grow {E : PE} {S : List (Nat × Nat)} {F : Nat → Nat → Option Nat} {h : Nat → Int → Int} {x : Nat × Nat} {q : Nat} {H1 : Heap} (hw : ∀ a k b, a < S.length → F a k = some b → b < S.length) (hn : ∀ k, F S.length k = none) (hz : ∀ i, h S.length i = 0) (hN : pm_nz (S, F, h))
    (hP : va_P E.1 pm_cl (pm_wl E (S, F, h) ++ [(q, pm_ce E (S, F, h) S.length x)]) H1) (hD : va_D (pm_A E) (pm_wl E (S, F, h) ++ [(q, pm_ce E (S, F, h) S.length x)])) : pm_Rel (pE2 E S.length q) (S ++ [x], F, h) H1 := by
  have e : pm_wl (pE2 E S.length q) (S ++ [x], F, h) = pm_wl E (S, F, h) ++ [(q, pm_ce E (S, F, h) S.length x)] := by
    unfold pm_wl
    show (List.range (S ++ [x]).length).map _ = (List.range S.length).map _ ++ _
    rw [List.length_append, List.length_singleton, List.range_succ, List.map_append, List.map_singleton]
    congr 1
    · refine List.map_congr_left (fun j hj => ?_)
      have hj := List.mem_range.mp hj
      unfold pm_w
      show ((if j = S.length then q else E.2.2.1 j), pm_ce (pE2 E S.length q) (S ++ [x], F, h) j ((S ++ [x]).getD j (100, 0))) = (E.2.2.1 j, pm_ce E (S, F, h) j (S.getD j (100, 0)))
      rw [if_neg (by omega), List.getD_eq_getElem?_getD, List.getElem?_append_left hj, ← List.getD_eq_getElem?_getD]
      have hk : ∀ k, (F j k).map (pE2 E S.length q).2.2.1 = (F j k).map E.2.2.1 := fun k => by
        cases hF : F j k with
        | none => rfl
        | some b =>
          have := hw j k b hj hF
          show some (if b = S.length then q else E.2.2.1 b) = some (E.2.2.1 b)
          rw [if_neg (by omega)]
      rw [pm_ce_ext (E := E) (E2 := pE2 E S.length q) (S := S) (S' := S ++ [x]) rfl hk]
    · unfold pm_w
      show [((if S.length = S.length then q else E.2.2.1 S.length), pm_ce (pE2 E S.length q) (S ++ [x], F, h) S.length ((S ++ [x]).getD S.length (100, 0)))] = _
      rw [if_pos rfl, List.getD_eq_getElem?_getD, List.getElem?_concat_length]
      show [(q, pm_ce (pE2 E S.length q) (S ++ [x], F, h) S.length x)] = _
      have hk : ∀ k, (F S.length k).map (pE2 E S.length q).2.2.1 = (F S.length k).map E.2.2.1 := fun k => by rw [hn k]; rfl
      rw [pm_ce_ext (E := E) (E2 := pE2 E S.length q) (S := S) (S' := S ++ [x]) rfl hk]
  refine ⟨by rw [e]; exact hP, by rw [e]; exact hD, fun a y hy i => ?_⟩
  have hy : (S ++ [x])[a]? = some y := hy
  by_cases ha : a < S.length
  · rw [List.getElem?_append_left ha] at hy
    exact hN a y hy i
  · have : a = S.length := by
      have := (List.getElem?_eq_some_iff.mp hy).1
      rw [List.length_append, List.length_singleton] at this
      omega
    subst this
    show (_ → r32 (h S.length i)) ∧ r64 (h S.length i)
    rw [hz i]
    exact ⟨fun _ => by omega, by omega⟩
