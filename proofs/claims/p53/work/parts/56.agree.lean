/-! ===== who knows the same; all that is known ===== -/
section VW28
theorem vO_of {σ : vw_S} (hI : vI σ) {w : Nat} (hw : w < 6) : vO1 (σ.2 1 0) (σ.2 5) (σ.2 6) (σ.1 6) (σ.1 0 w) (σ.1 1 w) := hI.1.1.2.2.2.2.2.1 w hw
theorem vk_mem {σ : vw_S} (hI : vI σ) {w : Nat} (hw : w < 6) {d : Nat} (hd : (d : Int) < σ.2 1 0) : (d : Int) ∈ σ.1 0 w ↔ vk_kn σ w d := (vO_of hI hw).2.2.1 d hd
theorem vk_au {σ : vw_S} (hI : vI σ) {d : Nat} (hd : (d : Int) < σ.2 1 0) : ∃ A : Nat, σ.2 5 d = (A : Int) ∧ A < 6 ∧ (A : Int) < σ.2 0 0 := by
  have h := (hI.1.1.2.2.1 d hd).1
  have hc := hI.1.1.2.1
  exact ⟨(σ.2 5 d).toNat, by omega, by omega, by omega⟩
/-- who has heard the same sees the same -/
theorem vx_agree {σ : vw_S} (hI : vI σ) {w o : Nat} (hw : w < 6) (ho : o < 6) (h : ∀ a : Nat, a < 6 → vl_at (σ.1 1 w) (a : Int) = vl_at (σ.1 1 o) (a : Int)) : vx σ w = vx σ o := by
  unfold vx
  have h1 := vO_of hI hw
  have h2 := vO_of hI ho
  have hn := hI.1.1.1
  refine vq_vw_kn (vq_kn_eq hn.1 hn.2 h1.2.1 h2.2.1 (fun x => ?_)) (-1)
  constructor
  · intro hx
    have hr := h1.2.1 x hx
    obtain ⟨d, rfl⟩ : ∃ d : Nat, x = (d : Int) := ⟨x.toNat, by omega⟩
    obtain ⟨A, e, hA, -⟩ := vk_au hI hr.2
    have g := (h1.2.2.1 d hr.2).mp hx
    rw [e, h A hA] at g
    exact (h2.2.2.1 d hr.2).mpr (by rw [e]; exact g)
  · intro hx
    have hr := h2.2.1 x hx
    obtain ⟨d, rfl⟩ : ∃ d : Nat, x = (d : Int) := ⟨x.toNat, by omega⟩
    obtain ⟨A, e, hA, -⟩ := vk_au hI hr.2
    have g := (h2.2.2.1 d hr.2).mp hx
    rw [e, ← h A hA] at g
    exact (h1.2.2.1 d hr.2).mpr (by rw [e]; exact g)
theorem vy_same_of {σ : vw_S} {w o : Nat} (h : vx σ w = vx σ o) : vy_same σ w o := by
  unfold vy_same
  rw [h]
  exact vy_same_refl σ o
theorem vk_bey0 {σ : vw_S} (hI : vI σ) {w o : Nat} (hw : w < 6) (ho : o < 6) : vk_bey (σ.1 1 w) (σ.1 1 o) 6 = 0 ↔ ∀ a : Nat, a < 6 → vl_at (σ.1 1 w) (a : Int) ≤ vl_at (σ.1 1 o) (a : Int) := (vk_bey_in (vK_he hI.1.1 w hw) (vK_he hI.1.1 o ho) 6 (Nat.le_refl _)).2
theorem vx_bey {σ : vw_S} (hI : vI σ) {w o : Nat} (hw : w < 6) (ho : o < 6) (h1 : vk_bey (σ.1 1 w) (σ.1 1 o) 6 = 0) (h2 : vk_bey (σ.1 1 o) (σ.1 1 w) 6 = 0) : vx σ w = vx σ o :=
  vx_agree hI hw ho (fun a ha => by
    have g1 := (vk_bey0 hI hw ho).mp h1 a ha
    have g2 := (vk_bey0 hI ho hw).mp h2 a ha
    omega)
/-- who knows all that another one knows has heard no less -/
theorem vk_le_of {σ : vw_S} (hI : vI σ) {w o : Nat} (hw : w < 6) (ho : o < 6) (h : ∀ j d : Nat, (σ.1 0 w)[j]? = some (d : Int) → vk_kn σ o d) : ∀ a : Nat, a < 6 → vl_at (σ.1 1 w) (a : Int) ≤ vl_at (σ.1 1 o) (a : Int) := by
  intro a ha
  have hb := vK_he hI.1.1 o ho a ha
  by_cases m0 : vl_at (σ.1 1 w) (a : Int) ≤ 0
  · omega
  · have hd := ((hI.1.1.2.2.2.2.1 w hw).2.1 a ha).2
    obtain ⟨d, d1, d2, d3⟩ := hI.1.1.2.2.2.2.2.2.1.2 a ha (vl_at (σ.1 1 w) (a : Int)) (by omega) hd
    have hm : (d : Int) ∈ σ.1 0 w := (vk_mem hI hw d1).mpr (by
      unfold vk_kn
      rw [d2, d3]
      exact Int.le_refl _)
    obtain ⟨j, hj⟩ := List.getElem?_of_mem hm
    have g := h j d hj
    unfold vk_kn at g
    rw [d2, d3] at g
    exact g
theorem vy_agr_of {σ : vw_S} (hI : vI σ) (h : ∀ w o : Nat, w < 6 → o < 6 → σ.2 2 w = 1 → σ.2 2 o = 1 → ∀ a : Nat, a < 6 → vl_at (σ.1 1 w) (a : Int) ≤ vl_at (σ.1 1 o) (a : Int)) : vy_agr σ :=
  fun f i hf hi pf pi _ => ⟨(vk_bey0 hI hf hi).mpr (h f i hf hi pf pi), (vk_bey0 hI hi hf).mpr (h i f hi hf pi pf)⟩
/-- an author knows its own deeds -/
theorem vk_author {σ : vw_S} (hI : vI σ) {d : Nat} (hd : (d : Int) < σ.2 1 0) : ∃ A : Nat, A < 6 ∧ (A : Int) < σ.2 0 0 ∧ (d : Int) ∈ σ.1 0 A := by
  obtain ⟨A, e, hA, hc⟩ := vk_au hI hd
  have g := hI.1.1.2.2.2.2.2.2.1.1 d hd
  rw [e, Int.toNat_natCast] at g
  exact ⟨A, hA, hc, (vk_mem hI hA hd).mpr (by unfold vk_kn; rw [e]; exact g)⟩
theorem vl_new_spec {n : Int} (hn : n ≤ 120) : ∀ (l u : List Int), u.Nodup → (∀ x ∈ u, 0 ≤ x ∧ x < n) → (∀ x ∈ l, 0 ≤ x ∧ x < n) → (vl_new 120 u l).Nodup ∧ (∀ x ∈ vl_new 120 u l, 0 ≤ x ∧ x < n) ∧ ∀ x, x ∈ vl_new 120 u l ↔ (x ∈ u ∨ x ∈ l) := by
  intro l
  induction l with
  | nil =>
    intro u h1 h2 _
    exact ⟨h1, h2, fun x => ⟨Or.inl, fun h => h.elim (fun g => g) (fun g => absurd g List.not_mem_nil)⟩⟩
  | cons y l ih =>
    intro u h1 h2 h3
    have e : vl_new 120 u (y :: l) = vl_new 120 (if vl_pl u y = -1 then vl_add 120 u y else u) l := rfl
    have hy := h3 y List.mem_cons_self
    have hl := fun x hx => h3 x (List.mem_cons_of_mem _ hx)
    rw [e]
    rcases vl_pl_cases u y with g | g
    · rw [if_pos g.1]
      have hlen : u.length < 120 := by
        have := vl_pigeon 120 (y :: u) (List.nodup_cons.mpr ⟨g.2, h1⟩) (fun x hx => by
          rcases List.mem_cons.mp hx with q | q
          · rw [q]; omega
          · have := h2 x q; omega)
        rw [List.length_cons] at this
        omega
      rw [vl_add_lt _ hlen]
      have hu : (u ++ [y]).Nodup := by
        rw [List.nodup_append]
        refine ⟨h1, List.nodup_cons.mpr ⟨List.not_mem_nil, List.nodup_nil⟩, fun x hx z hz => ?_⟩
        rw [List.mem_singleton] at hz
        rw [hz]
        intro q
        rw [q] at hx
        exact g.2 hx
      have hu2 : ∀ x ∈ u ++ [y], 0 ≤ x ∧ x < n := fun x hx => by
        rcases List.mem_append.mp hx with q | q
        · exact h2 x q
        · rw [List.mem_singleton.mp q]; exact hy
      obtain ⟨a1, a2, a3⟩ := ih (u ++ [y]) hu hu2 hl
      refine ⟨a1, a2, fun x => ?_⟩
      rw [a3, List.mem_append, List.mem_singleton, List.mem_cons]
      constructor
      · intro q
        rcases q with (q | q) | q
        · exact Or.inl q
        · exact Or.inr (Or.inl q)
        · exact Or.inr (Or.inr q)
      · intro q
        rcases q with q | q | q
        · exact Or.inl (Or.inl q)
        · exact Or.inl (Or.inr q)
        · exact Or.inr q
    · rw [if_neg (by omega)]
      obtain ⟨a1, a2, a3⟩ := ih u h1 h2 hl
      have hyu : y ∈ u := by
        have := vl_at_mem (l := u) (z := vl_pl u y) g.1 g.2.1
        rw [g.2.2] at this
        exact this
      refine ⟨a1, a2, fun x => ?_⟩
      rw [a3, List.mem_cons]
      constructor
      · intro q
        rcases q with q | q
        · exact Or.inl q
        · exact Or.inr (Or.inr q)
      · intro q
        rcases q with q | q | q
        · exact Or.inl q
        · rw [q]; exact Or.inl hyu
        · exact Or.inr q
theorem vq_un_spec {σ : vw_S} (hI : vI σ) : ∀ m : Nat, m ≤ 6 → (vq_un (σ.1 0) σ.2 m).Nodup ∧ (∀ x ∈ vq_un (σ.1 0) σ.2 m, 0 ≤ x ∧ x < σ.2 1 0) ∧ ∀ x, x ∈ vq_un (σ.1 0) σ.2 m ↔ ∃ i : Nat, i < m ∧ σ.2 2 i = 1 ∧ x ∈ σ.1 0 i := by
  intro m
  induction m with
  | zero =>
    intro _
    exact ⟨List.nodup_nil, fun x hx => absurd hx List.not_mem_nil, fun x => ⟨fun hx => absurd hx List.not_mem_nil, fun ⟨i, hi, _⟩ => absurd hi (Nat.not_lt_zero _)⟩⟩
  | succ m ih =>
    intro hm
    obtain ⟨i1, i2, i3⟩ := ih (by omega)
    have e : vq_un (σ.1 0) σ.2 (m + 1) = if σ.2 2 m = 1 then vl_new 120 (vq_un (σ.1 0) σ.2 m) (σ.1 0 m) else vq_un (σ.1 0) σ.2 m := rfl
    rw [e]
    by_cases q : σ.2 2 m = 1
    · rw [if_pos q]
      obtain ⟨a1, a2, a3⟩ := vl_new_spec (hI.1.1.1.2) (σ.1 0 m) (vq_un (σ.1 0) σ.2 m) i1 i2 (vO_of hI (by omega)).2.1
      refine ⟨a1, a2, fun x => ?_⟩
      rw [a3, i3]
      constructor
      · intro g
        rcases g with ⟨i, g1, g2, g3⟩ | g
        · exact ⟨i, by omega, g2, g3⟩
        · exact ⟨m, by omega, q, g⟩
      · intro ⟨i, g1, g2, g3⟩
        by_cases e2 : i = m
        · subst e2; exact Or.inr g3
        · exact Or.inl ⟨i, by omega, g2, g3⟩
    · rw [if_neg q]
      refine ⟨i1, i2, fun x => ?_⟩
      rw [i3]
      constructor
      · intro ⟨i, g1, g2, g3⟩; exact ⟨i, by omega, g2, g3⟩
      · intro ⟨i, g1, g2, g3⟩
        by_cases e2 : i = m
        · subst e2; exact absurd g2 q
        · exact ⟨i, by omega, g2, g3⟩
/-- all that came are there: what would be known is all -/
theorem vy_all_eq {σ : vw_S} (hI : vI σ) (hall : ∀ i : Nat, (i : Int) < σ.2 0 0 → σ.2 2 i = 1) {l : List Int} (hl : ∀ x, x ∈ l ↔ (0 ≤ x ∧ x < σ.2 1 0)) : vy_all σ = ((vq_vw σ l l.length (-1) 16).length : Int) := by
  obtain ⟨a1, a2, a3⟩ := vq_un_spec hI 6 (Nat.le_refl _)
  have hn := hI.1.1.1
  unfold vy_all
  rw [vq_vw_kn (vq_kn_eq hn.1 hn.2 a2 (fun x hx => (hl x).mp hx) (fun x => ?_)) (-1)]
  constructor
  · intro hx; exact (hl x).mpr (a2 x hx)
  · intro hx
    have hr := (hl x).mp hx
    obtain ⟨d, rfl⟩ : ∃ d : Nat, x = (d : Int) := ⟨x.toNat, by omega⟩
    obtain ⟨A, hA, hc, hm⟩ := vk_author hI hr.2
    exact (a3 _).mpr ⟨A, hA, hall A hc, hm⟩
/-- all that came are there and have heard the same: each knows all -/
theorem vk_all_mem {σ : vw_S} (hI : vI σ) (hall : ∀ i : Nat, (i : Int) < σ.2 0 0 → σ.2 2 i = 1) {w : Nat} (hw : w < 6) (h : ∀ o : Nat, o < 6 → σ.2 2 o = 1 → ∀ a : Nat, a < 6 → vl_at (σ.1 1 o) (a : Int) ≤ vl_at (σ.1 1 w) (a : Int)) : ∀ x, x ∈ σ.1 0 w ↔ (0 ≤ x ∧ x < σ.2 1 0) := by
  intro x
  refine ⟨fun hx => (vO_of hI hw).2.1 x hx, fun hr => ?_⟩
  obtain ⟨d, rfl⟩ : ∃ d : Nat, x = (d : Int) := ⟨x.toNat, by omega⟩
  obtain ⟨A, hA, hc, hm⟩ := vk_author hI hr.2
  have g := (vk_mem hI hA hr.2).mp hm
  obtain ⟨B, e, hB, -⟩ := vk_au hI hr.2
  refine (vk_mem hI hw hr.2).mpr ?_
  unfold vk_kn at g ⊢
  rw [e] at g ⊢
  exact Int.le_trans g (h A hA (hall A hc) B hB)
theorem vq_len {σ : vw_S} (hI : vI σ) (l : List Int) (n : Nat) (tb : Int) : (vq_vw σ l n tb 16).length ≤ 720 := by
  have hl : (σ.1 12 0).length ≤ 720 := by
    have h1 := hI.2.1.2.2.1
    have h2 := hI.1.1.1
    omega
  obtain ⟨a1, a2, a3⟩ := vq_ga_all (Kn := vq_vw σ l n tb 17) (ef := vq_vw σ l n tb 18) (er := vq_vw σ l n tb 19) hI.2.1 hl
  have e15 : (vq_ga (σ.1 13 0) (σ.1 14 0) (vq_vw σ l n tb 17) (vq_vw σ l n tb 18) (vq_vw σ l n tb 19) (σ.1 12 0).length (σ.1 12 0).length).1 = vq_vw σ l n tb 15 := rfl
  have e16 : (vq_ga (σ.1 13 0) (σ.1 14 0) (vq_vw σ l n tb 17) (vq_vw σ l n tb 18) (vq_vw σ l n tb 19) (σ.1 12 0).length (σ.1 12 0).length).2.1 = vq_vw σ l n tb 16 := rfl
  rw [e15] at a2
  rw [e15, e16] at a3
  rw [a3]
  exact Nat.le_trans (List.length_filter_le _ _) a2
theorem vy_all_in {σ : vw_S} (hI : vI σ) : 0 ≤ vy_all σ ∧ vy_all σ ≤ 720 := by
  have := vq_len hI (vq_un (σ.1 0) σ.2 6) (vq_un (σ.1 0) σ.2 6).length (-1)
  unfold vy_all
  omega
variable {L : Nat} {xs : Nat → Int32} {σ σ1 : vw_S} {Q : List Value → vw_S → Prop} {k pc a b c : Nat} {lc : List (Option Value)} {sc : List Value} {x : Int}
theorem k_isSound (hc : vt_code k pc = (29, 127, b, c)) (s : vw_same σ σ1) (hI : vI σ) {w : Nat} (hw : w < 6) (hc0 : (w : Int) < σ.2 0 0) (hp : σ.2 2 w = 1) (hs : Nat.ble (vj_cat sc) 8 = true) (t : ∀ σ', vw_same σ σ' → vW vw_rep L xs (k, pc + 3, lc, .int (jI 1) :: sc) σ' Q) : vW vw_rep L xs (k, pc, lc, .int (jI x) :: .int (jI (w : Int)) :: .ref 8 :: sc) σ1 Q :=
  c_isSound hc (vI_same hI s) hw (by rw [s.1]; exact hc0) (by rw [s.1]; exact hp) hs (fun σ' s' => t σ' (s.trans s'))
theorem k_agree (hc : vt_code k pc = (27, 72, b, c)) (hI : vI σ) (hA : vy_agr σ) (hs : Nat.ble (vj_cat sc) 8 = true) (t : vW vw_rep L xs (k, pc + 3, lc, .int (jI 1) :: sc) σ Q) : vW vw_rep L xs (k, pc, lc, .ref 8 :: sc) σ Q :=
  c_agree hc (vI_he hI) hs (fun _ => t) (fun h => absurd hA h)
end VW28
