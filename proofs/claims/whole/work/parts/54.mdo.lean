-- needs: 53.mop
/-! what the orders do to the state 0 -/
def OpS (S T : SS) (y : Nat) (D : DV) : Prop := Fr S T (y + 1) (y + 5) ∧ sI T (y + 3) = sI S (y + 3) ∧ DE (mV T y 0) D ∧ ∀ q, 1 ≤ q → q < 9 → Qs S T y q q
theorem OpS.of {S T : SS} {y : Nat} {D : DV} (h1 : Fr S T (y + 1) (y + 5)) (h2 : sI T (y + 3) = sI S (y + 3)) (h3 : DE (mV T y 0) D) (h4 : ∀ j, 983 ≤ j → j < 8847 → sI T (y + 1) j = sI S (y + 1) j) (h5 : ∀ j, 480 ≤ j → j < 4320 → sF T (y + 2) j = sF S (y + 2) j) : OpS S T y D :=
  ⟨h1, h2, h3, fun q a b => ⟨fun j hj => h4 _ (by omega) (by omega), fun j hj => h5 _ (by omega) (by omega)⟩⟩
/-- numbers of state 0 written -/
theorem mV_st0 (S : SS) (y k : Nat) (v : Int32) : sI (stI S (y + 1) k v) (y + 1) = upV (sI S (y + 1)) k v := by rw [sI_row, if_pos rfl]
def P_X7_lays (as : List Value) (S : SS) (E : Option Value → SS → Prop) : Prop := match as with
  | [.ref y, .int p] => ModAt S y ∧ ∀ T, OpS S T y (neLay (mV S y 0) p) → E (some (.int (mV S y 0).dk)) T
  | _ => False
def Γ_X7_lays : List (MI × PT) := []
theorem hΓ_X7_lays (l : Launch) (G : Gx) : ∀ q ∈ Γ_X7_lays, Ct l G q.1 q.2 := fun _ h => absurd h List.not_mem_nil
/-- a number of state 0 -/
theorem de_up {S : SS} {y k : Nat} {v : Int32} {D : DV} (hD : ∀ i, i < 4 → upV (sI S (y + 1)) k v i = D.st i) (h1 : ∀ i, i < 5 → upV (sI S (y + 1)) k v (8 + i) = D.pr i ∧ upV (sI S (y + 1)) k v (13 + i) = D.wr i ∧ upV (sI S (y + 1)) k v (18 + i) = D.sp i) (h2 : upV (sI S (y + 1)) k v 4 = D.hr) (h3 : upV (sI S (y + 1)) k v 5 = D.pl) (h4 : upV (sI S (y + 1)) k v 6 = D.dk) (h5 : upV (sI S (y + 1)) k v 7 = D.pp) (h6 : ∀ p, nI p < upV (sI S (y + 1)) k v 5 → p < 4 → GE (mG (stI S (y + 1) k v) y 0 p) (D.g p)) : DE (mV (stI S (y + 1) k v) y 0) D := by
  refine ⟨fun i hi => ?_, fun i hi => ⟨?_, ?_, ?_⟩, ?_, ?_, ?_, ?_, fun p hp hp4 => h6 p ?_ hp4⟩
  · show sI (stI S (y + 1) k v) (y + 1) (983 * 0 + i) = _
    rw [mV_st0, show 983 * 0 + i = i by omega]
    exact hD i hi
  · show sI (stI S (y + 1) k v) (y + 1) (983 * 0 + 8 + i) = _
    rw [mV_st0, show 983 * 0 + 8 + i = 8 + i by omega]
    exact (h1 i hi).1
  · show sI (stI S (y + 1) k v) (y + 1) (983 * 0 + 13 + i) = _
    rw [mV_st0, show 983 * 0 + 13 + i = 13 + i by omega]
    exact (h1 i hi).2.1
  · show sI (stI S (y + 1) k v) (y + 1) (983 * 0 + 18 + i) = _
    rw [mV_st0, show 983 * 0 + 18 + i = 18 + i by omega]
    exact (h1 i hi).2.2
  · show sI (stI S (y + 1) k v) (y + 1) 4 = _
    rw [mV_st0]; exact h2
  · show sI (stI S (y + 1) k v) (y + 1) 5 = _
    rw [mV_st0]; exact h3
  · show sI (stI S (y + 1) k v) (y + 1) 6 = _
    rw [mV_st0]; exact h4
  · show sI (stI S (y + 1) k v) (y + 1) 7 = _
    rw [mV_st0]; exact h5
  · have e : (mV (stI S (y + 1) k v) y 0).pl = sI (stI S (y + 1) k v) (y + 1) 5 := rfl
    rw [e, mV_st0] at hp
    exact hp
/-- below 23 the plates are as they were -/
theorem mG_low {S : SS} {y k : Nat} {v : Int32} (hk : k < 23) (p : Nat) : mG (stI S (y + 1) k v) y 0 p = mG S y 0 p := by
  have e : ∀ j, 23 ≤ j → sI (stI S (y + 1) k v) (y + 1) j = sI S (y + 1) j := fun j hj => by rw [mV_st0]; exact if_neg (by omega)
  unfold mG
  have e1 : (fun k_1 => mtI (sI (stI S (y + 1) k v) (y + 1) (iK 0 p k_1))) = fun k_1 => mtI (sI S (y + 1) (iK 0 p k_1)) := funext fun j => by rw [e _ (by unfold iK; omega)]
  have e2 : (fun k_1 => mwI (sI (stI S (y + 1) k v) (y + 1) (iK 0 p k_1))) = fun k_1 => mwI (sI S (y + 1) (iK 0 p k_1)) := funext fun j => by rw [e _ (by unfold iK; omega)]
  have e3 : (fun k_1 => sI (stI S (y + 1) k v) (y + 1) (iK 0 p k_1 + 1)) = fun k_1 => sI S (y + 1) (iK 0 p k_1 + 1) := funext fun j => by rw [e _ (by unfold iK; omega)]
  rw [e1, e2, e3]
  rfl
/-- one number of state 0 written -/
theorem mV_up (S : SS) (y k : Nat) (v : Int32) (hk : k < 23) : DE (mV (stI S (y + 1) k v) y 0) (if k < 4 then (sf_st (mV S y 0) (upV (mV S y 0).st k v)) else if k = 4 then (sf_hr (mV S y 0) (v)) else if k = 5 then (sf_pl (mV S y 0) (v)) else if k = 6 then (sf_dk (mV S y 0) (v)) else if k = 7 then (sf_pp (mV S y 0) (v)) else if k < 13 then (sf_pr (mV S y 0) (upV (mV S y 0).pr (k - 8) v)) else if k < 18 then (sf_wr (mV S y 0) (upV (mV S y 0).wr (k - 13) v)) else (sf_sp (mV S y 0) (upV (mV S y 0).sp (k - 18) v))) := by
  have a0 : ∀ i, (mV S y 0).st i = sI S (y + 1) i := fun i => by show sI S (y + 1) (983 * 0 + i) = _; rw [show 983 * 0 + i = i by omega]
  have a1 : ∀ i, (mV S y 0).pr i = sI S (y + 1) (8 + i) := fun i => by show sI S (y + 1) (983 * 0 + 8 + i) = _; rw [show 983 * 0 + 8 + i = 8 + i by omega]
  have a2 : ∀ i, (mV S y 0).wr i = sI S (y + 1) (13 + i) := fun i => by show sI S (y + 1) (983 * 0 + 13 + i) = _; rw [show 983 * 0 + 13 + i = 13 + i by omega]
  have a3 : ∀ i, (mV S y 0).sp i = sI S (y + 1) (18 + i) := fun i => by show sI S (y + 1) (983 * 0 + 18 + i) = _; rw [show 983 * 0 + 18 + i = 18 + i by omega]
  have b4 : (mV S y 0).hr = sI S (y + 1) 4 := rfl
  have b5 : (mV S y 0).pl = sI S (y + 1) 5 := rfl
  have b6 : (mV S y 0).dk = sI S (y + 1) 6 := rfl
  have b7 : (mV S y 0).pp = sI S (y + 1) 7 := rfl
  have g : ∀ p, GE (mG (stI S (y + 1) k v) y 0 p) ((mV S y 0).g p) := fun p => by rw [mG_low hk]; exact GE.refl _
  split
  · refine de_up (fun i hi => ?_) (fun i hi => ⟨?_, ?_, ?_⟩) ?_ ?_ ?_ ?_ (fun p _ _ => g p)
    · show _ = upV (mV S y 0).st k v i
      unfold upV; rw [a0]
    · show _ = (mV S y 0).pr i
      rw [a1]; exact if_neg (by omega)
    · show _ = (mV S y 0).wr i
      rw [a2]; exact if_neg (by omega)
    · show _ = (mV S y 0).sp i
      rw [a3]; exact if_neg (by omega)
    · exact if_neg (by omega)
    · exact if_neg (by omega)
    · exact if_neg (by omega)
    · exact if_neg (by omega)
  · have z0 : ∀ i, i < 4 → upV (sI S (y + 1)) k v i = (mV S y 0).st i := fun i hi => by rw [a0]; exact if_neg (by omega)
    have z1 : k < 8 → ∀ i, i < 5 → upV (sI S (y + 1)) k v (8 + i) = (mV S y 0).pr i ∧ upV (sI S (y + 1)) k v (13 + i) = (mV S y 0).wr i ∧ upV (sI S (y + 1)) k v (18 + i) = (mV S y 0).sp i := fun hk i hi => by
      rw [a1, a2, a3]
      exact ⟨if_neg (by omega), if_neg (by omega), if_neg (by omega)⟩
    split
    · rename_i c1 c2
      subst c2
      exact de_up z0 (z1 (by omega)) rfl rfl rfl rfl (fun p _ _ => g p)
    · split
      · rename_i c1 c2 c3
        subst c3
        exact de_up z0 (z1 (by omega)) rfl rfl rfl rfl (fun p _ _ => g p)
      · split
        · rename_i c1 c2 c3 c4
          subst c4
          exact de_up z0 (z1 (by omega)) rfl rfl rfl rfl (fun p _ _ => g p)
        · split
          · rename_i c1 c2 c3 c4 c5
            subst c5
            exact de_up z0 (z1 (by omega)) rfl rfl rfl rfl (fun p _ _ => g p)
          · have z4 : ∀ j, j < 8 → upV (sI S (y + 1)) k v j = sI S (y + 1) j := fun j hj => if_neg (by omega)
            split
            · refine de_up z0 (fun i hi => ⟨?_, ?_, ?_⟩) (z4 4 (by omega)) (z4 5 (by omega)) (z4 6 (by omega)) (z4 7 (by omega)) (fun p _ _ => g p)
              · show _ = upV (mV S y 0).pr (k - 8) v i
                unfold upV; rw [a1]
                by_cases c : i = k - 8
                · rw [if_pos c, if_pos (by omega)]
                · rw [if_neg c, if_neg (by omega)]
              · show _ = (mV S y 0).wr i
                rw [a2]; exact if_neg (by omega)
              · show _ = (mV S y 0).sp i
                rw [a3]; exact if_neg (by omega)
            · split
              · refine de_up z0 (fun i hi => ⟨?_, ?_, ?_⟩) (z4 4 (by omega)) (z4 5 (by omega)) (z4 6 (by omega)) (z4 7 (by omega)) (fun p _ _ => g p)
                · show _ = (mV S y 0).pr i
                  rw [a1]; exact if_neg (by omega)
                · show _ = upV (mV S y 0).wr (k - 13) v i
                  unfold upV; rw [a2]
                  by_cases c : i = k - 13
                  · rw [if_pos c, if_pos (by omega)]
                  · rw [if_neg c, if_neg (by omega)]
                · show _ = (mV S y 0).sp i
                  rw [a3]; exact if_neg (by omega)
              · refine de_up z0 (fun i hi => ⟨?_, ?_, ?_⟩) (z4 4 (by omega)) (z4 5 (by omega)) (z4 6 (by omega)) (z4 7 (by omega)) (fun p _ _ => g p)
                · show _ = (mV S y 0).pr i
                  rw [a1]; exact if_neg (by omega)
                · show _ = (mV S y 0).wr i
                  rw [a2]; exact if_neg (by omega)
                · show _ = upV (mV S y 0).sp (k - 18) v i
                  unfold upV; rw [a3]
                  by_cases c : i = k - 18
                  · rw [if_pos c, if_pos (by omega)]
                  · rw [if_neg c, if_neg (by omega)]
