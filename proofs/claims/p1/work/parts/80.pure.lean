theorem z_lo (t j : Nat) (h : 2 ≤ t) (h' : t ≤ 61) : sig0.1 t j = 0 := by
  show (if t = 0 then _ else if t = 1 then _ else if t = 62 then _ else if t = 78 then _ else (0 : Int32)) = 0
  rw [if_neg (by omega), if_neg (by omega), if_neg (by omega), if_neg (by omega)]
theorem z_hi (t j : Nat) (h : 63 ≤ t) (h' : t ≠ 78) : sig0.1 t j = 0 := by
  show (if t = 0 then _ else if t = 1 then _ else if t = 62 then _ else if t = 78 then _ else (0 : Int32)) = 0
  rw [if_neg (by omega), if_neg (by omega), if_neg (by omega), if_neg (by omega)]
theorem ir0 {n : Nat} (h : 0 < n) : ir (0 : Int32) n := ⟨by decide, by show (0 : Int) < _; omega⟩
theorem tv0 (t : Nat) (h : 3 ≤ t) (h' : t ≤ 50) : TV t sig0 := by
  unfold TV
  rw [z_lo t 1 (by omega) (by omega), z_lo t 4 (by omega) (by omega), z_lo t 5 (by omega) (by omega), z_lo t 6 (by omega) (by omega), z_lo t 7 (by omega) (by omega)]
  refine ⟨by decide, by decide, by decide, by decide, ir0 (by decide), fun j => ?_, fun j => ?_⟩
  · rw [z_lo _ _ (by omega) (by omega)]; exact ir0 (by decide)
  · rw [z_lo _ _ (by omega) (by omega)]; exact ir0 (by decide)
theorem wv0 (p o : Nat) (h : 63 ≤ p) (h' : p ≠ 78) : WV p o sig0 := by
  unfold WV
  simp only [z_hi p _ h h']
  refine ⟨by decide, by decide, by decide, by decide, fun _ _ => Or.inl trivial, fun _ _ => ir0 (by decide), fun g _ hg => absurd hg ?_⟩
  have : (0 : Int32).toInt = 0 := rfl
  omega
theorem inv0 : INV sig0 := by
  refine ⟨⟨by decide, tv0 3 (by omega) (by omega), (tv0 10 (by omega) (by omega)).ta, fun i hi => tv0 _ (by simp only [imgp]; omega) (by simp only [imgp]; omega), fun s hs => ?_⟩, ⟨by decide, wv0 63 0 (by omega) (by omega), fun i hi => wv0 64 _ (by omega) (by omega), by decide⟩, ⟨rfl, fun k hk => ?_, fun s hs => ?_⟩⟩
  · unfold RV
    rw [z_lo _ _ (by simp only [rowp]; omega) (by simp only [rowp]; omega)]
    decide
  · rw [z_lo _ _ (by omega) (by omega), z_hi _ _ (by omega) (by omega)]
  · rw [z_lo _ 0 (by simp only [rowp]; omega) (by simp only [rowp]; omega)]
    refine ⟨⟨fun _ => ?_, fun _ => rfl⟩, fun q => absurd rfl q⟩
    have : s = 0 ∨ s = 1 ∨ s = 2 ∨ s = 3 := by omega
    rcases this with rfl | rfl | rfl | rfl <;> rfl

theorem g6_hasClaim (a : Int32) : fX6_hasClaim sig0 3 a = some 0 := by
  unfold fX6_hasClaim
  by_cases h : a < 0
  · rw [if_pos h]; rfl
  · rw [if_neg h, if_pos (show sig0.1 3 4 ≤ a from Int32.not_lt.mp h)]; rfl
theorem g6_hasStep (a : Int32) : fX6_hasStep sig0 3 a = some 0 := by
  unfold fX6_hasStep
  by_cases h : a < 0
  · rw [if_pos h]; rfl
  · rw [if_neg h, if_pos (show sig0.1 3 5 ≤ a from Int32.not_lt.mp h)]; rfl
theorem g6_hasGuest (a : Int32) : fX6_hasGuest sig0 3 a = some 0 := by
  unfold fX6_hasGuest
  by_cases h : a < 0
  · rw [if_pos h]; rfl
  · rw [if_neg h, if_pos (show sig0.1 3 6 ≤ a from Int32.not_lt.mp h)]; rfl
theorem g6_isClaimSet (a : Int32) : fX6_isClaimSet sig0 3 a = some 0 := rfl
theorem g6_isGuestSet (a : Int32) : fX6_isGuestSet sig0 3 a = some 0 := rfl
theorem g8_in (a : Int64) : fX8_in a 0 (-1) = some 0 := by
  rcases o8_in (a := a) (b := 0) (c := -1) rfl (v := 0) rfl (w := -1) rfl with ⟨h1, h2, e⟩ | ⟨h, e⟩
  · omega
  · exact e
theorem g8_isClaim (a : Int64) : fX8_isClaim sig0 a = some 0 := by
  unfold fX8_isClaim
  rw [gd_t (by decide), show ((sig0.1 63 (3 : Int32).toNatClampNeg - (1 : Int32)).toInt64) = (-1 : Int64) from by decide, g8_in]
  rfl
theorem g8_isStep (a : Int64) : fX8_isStep sig0 a = some 0 := by
  unfold fX8_isStep
  rw [gd_t (by decide), show ((sig0.1 63 (4 : Int32).toNatClampNeg - (1 : Int32)).toInt64) = (-1 : Int64) from by decide, g8_in]
  rfl
theorem g8_isGuest (a : Int64) : fX8_isGuest sig0 a = some 0 := by
  unfold fX8_isGuest
  rw [gd_t (by decide), show ((sig0.1 63 (5 : Int32).toNatClampNeg - (1 : Int32)).toInt64) = (-1 : Int64) from by decide, g8_in]
  rfl
theorem g8_isTable : fX8_isTable sig0 = some 0 := rfl
theorem g8_areClaims (a : Int32) : fX8_areClaims sig0 a = some 0 := rfl
theorem g8_areGuests (a : Int32) : fX8_areGuests sig0 a = some 0 := rfl
theorem o8_isSeed (a : Int32) : fX8_isSeed a = some 0 ∨ fX8_isSeed a = some 1 := by
  unfold fX8_isSeed
  rcases @l_in a.toInt64 0 2000000000 with ⟨_, _, e⟩ | ⟨_, e⟩
  · right; rw [e]; rfl
  · left; rw [e]; rfl
theorem g8_asksRow (a b : Int32) : fX8_asksRow sig0 a b = some (-2) := by
  unfold fX8_asksRow
  rcases o8_isSlot a with ⟨_, e⟩ | ⟨_, e⟩
  · rw [e]; rfl
  · rw [e]; rfl
theorem g8_asksKitchen (a b : Int32) : fX8_asksKitchen sig0 a b = some (-2) := by
  unfold fX8_asksKitchen
  rcases o8_isSlot a with ⟨_, e⟩ | ⟨_, e⟩
  · rw [e]; rfl
  · rw [e]; rfl
theorem g8_asksEaten (a b : Int32) : fX8_asksEaten sig0 a b = some (-2) := by
  unfold fX8_asksEaten
  rcases o8_isSlot a with ⟨_, e⟩ | ⟨_, e⟩
  · rw [e]; rfl
  · rw [e]; rfl
theorem q_feed (a1 : Int32) (a2 : Int32) (a3 : Int32) (a4 : Int32) (a5 : Int32) : ∃ r σ1 σ2, fX7_feed sig0 a1 a2 a3 a4 a5 = some (r, σ1) ∧ fX8_feed σ1 a1 a2 a3 a4 a5 = some (r, σ2) := by
  obtain ⟨r, σ1, σ2, h1, h2, _⟩ := t_feed inv0 a1 a2 a3 a4 a5
  exact ⟨r, σ1, σ2, h1, h2⟩
theorem q_end (a1 : Int32) : ∃ r σ1 σ2, fX7_end sig0 a1 = some (r, σ1) ∧ fX8_end σ1 a1 = some (r, σ2) := by
  obtain ⟨r, σ1, σ2, h1, h2, _⟩ := t_end inv0 a1
  exact ⟨r, σ1, σ2, h1, h2⟩
theorem q_table_c : (fX7_table sig0).bind (fun p => (fX8_table p.2).map (fun q => (p.1, q.1))) = some (0, 0) := by decide +kernel
theorem q_table : ∃ r σ1 σ2, fX7_table sig0  = some (r, σ1) ∧ fX8_table σ1  = some (r, σ2) := by
  have h := q_table_c
  cases e1 : fX7_table sig0 with
  | none => rw [e1] at h; cases h
  | some p =>
    rw [e1] at h
    rw [Option.bind_some] at h
    cases e2 : fX8_table p.2 with
    | none => rw [e2] at h; cases h
    | some q =>
      rw [e2] at h
      simp only [Option.map_some, Option.some.injEq, Prod.mk.injEq] at h
      obtain ⟨hp, hq⟩ := h
      refine ⟨0, p.2, q.2, ?_, ?_⟩
      · rw [← hp]
      · rw [e2, ← hq]
theorem q_fault (a1 : Int32) : ∃ r, fX7_fault sig0 a1 = some r ∧ fX8_fault sig0 a1 = some r := by
  by_cases h : a1 = 0
  · subst h; exact ⟨0, rfl, rfl⟩
  · by_cases h' : a1 = 1
    · subst h'; exact ⟨-1, rfl, rfl⟩
    · refine ⟨-1, ?_, ?_⟩
      · unfold fX7_fault; rw [if_neg h, if_neg h']
      · unfold fX8_fault; rw [if_neg h, if_neg h']
theorem q_claim (a1 : Int32) (a2 : Int32) : ∃ r, fX7_claim sig0 a1 a2 = some r ∧ fX8_claim sig0 a1 a2 = some r := by
  refine ⟨-2, ?_, ?_⟩
  · unfold fX7_claim; rw [g6_hasClaim]; rfl
  · unfold fX8_claim; rw [g8_isClaim]; rfl
theorem q_holds (a1 : Int32) : ∃ r, fX7_holds sig0 a1 = some r ∧ fX8_holds sig0 a1 = some r := by
  refine ⟨-2, ?_, ?_⟩
  · unfold fX7_holds; rw [g6_hasClaim]; rfl
  · unfold fX8_holds; rw [g8_isClaim]; rfl
theorem q_step (a1 : Int32) (a2 : Int32) : ∃ r, fX7_step sig0 a1 a2 = some r ∧ fX8_step sig0 a1 a2 = some r := by
  refine ⟨-2, ?_, ?_⟩
  · unfold fX7_step; rw [g6_hasStep]; rfl
  · unfold fX8_step; rw [g8_isStep]; rfl
theorem q_guest (a1 : Int32) (a2 : Int32) : ∃ r, fX7_guest sig0 a1 a2 = some r ∧ fX8_guest sig0 a1 a2 = some r := by
  refine ⟨-2, ?_, ?_⟩
  · unfold fX7_guest; rw [g6_hasGuest]; rfl
  · unfold fX8_guest; rw [g8_isGuest]; rfl
theorem q_salted  : ∃ r, fX7_salted sig0  = some r ∧ fX8_salted sig0  = some r := by
  refine ⟨-2, ?_, ?_⟩
  · rfl
  · rfl
theorem q_follows (a1 : Int32) : ∃ r, fX7_follows sig0 a1 = some r ∧ fX8_follows sig0 a1 = some r := by
  refine ⟨-2, ?_, ?_⟩
  · unfold fX7_follows; rw [g6_hasClaim]; rfl
  · unfold fX8_follows; rw [g8_isClaim]; rfl
theorem q_counter (a1 : Int32) : ∃ r, fX7_counter sig0 a1 = some r ∧ fX8_counter sig0 a1 = some r := by
  refine ⟨-2, ?_, ?_⟩
  · unfold fX7_counter; rw [g6_hasClaim]; rfl
  · unfold fX8_counter; rw [g8_isClaim]; rfl
theorem q_entails (a1 : Int32) (a2 : Int32) : ∃ r, fX7_entails sig0 a1 a2 = some r ∧ fX8_entails sig0 a1 a2 = some r := by
  refine ⟨-2, ?_, ?_⟩
  · unfold fX7_entails; rw [g6_hasClaim]; rfl
  · unfold fX8_entails; rw [g8_isClaim]; rfl
theorem q_alike (a1 : Int32) : ∃ r, fX7_alike sig0 a1 = some r ∧ fX8_alike sig0 a1 = some r := by
  refine ⟨-2, ?_, ?_⟩
  · unfold fX7_alike; rw [g6_hasClaim]; rfl
  · unfold fX8_alike; rw [g8_isClaim]; rfl
theorem q_falsity (a1 : Int32) : ∃ r, fX7_falsity sig0 a1 = some r ∧ fX8_falsity sig0 a1 = some r := by
  refine ⟨-2, ?_, ?_⟩
  · unfold fX7_falsity; rw [g6_hasStep]; rfl
  · unfold fX8_falsity; rw [g8_isStep]; rfl
theorem q_proved  : ∃ r σ1, fX7_proved sig0  = some (r, σ1) ∧ fX8_proved σ1  = some r := by
  refine ⟨-2, sig0, ?_, ?_⟩
  · rfl
  · rfl
theorem q_wrong  : ∃ r σ1, fX7_wrong sig0  = some (r, σ1) ∧ fX8_wrong σ1  = some r := by
  refine ⟨-2, sig0, ?_, ?_⟩
  · rfl
  · rfl
theorem q_covered  : ∃ r σ1, fX7_covered sig0  = some (r, σ1) ∧ fX8_covered σ1  = some r := by
  refine ⟨-2, sig0, ?_, ?_⟩
  · rfl
  · rfl
theorem q_reads (a1 : Int32) : ∃ r σ1 σ2, fX7_reads sig0 a1 = some (r, σ1) ∧ fX8_reads σ1 a1 = some (r, σ2) := by
  refine ⟨-2, sig0, sig0, ?_, ?_⟩
  · rfl
  · unfold fX8_reads; rw [g8_asksRow]; rfl
theorem q_why (a1 : Int32) : ∃ r σ1 σ2, fX7_why sig0 a1 = some (r, σ1) ∧ fX8_why σ1 a1 = some (r, σ2) := by
  refine ⟨-2, sig0, sig0, ?_, ?_⟩
  · rfl
  · unfold fX8_why; rw [g8_asksRow]; rfl
theorem q_reached (a1 : Int32) : ∃ r σ1 σ2, fX7_reached sig0 a1 = some (r, σ1) ∧ fX8_reached σ1 a1 = some (r, σ2) := by
  refine ⟨-2, sig0, sig0, ?_, ?_⟩
  · rfl
  · unfold fX8_reached; rw [g8_asksRow]; rfl
theorem q_eats (a1 : Int32) (a2 : Int32) : ∃ r, fX7_eats sig0 a1 a2 = some r ∧ fX8_eats sig0 a1 a2 = some r := by
  refine ⟨-100, ?_, ?_⟩
  · unfold fX7_eats; rw [g6_hasGuest]; rfl
  · unfold fX8_eats; rw [g8_isGuest, bp_s, g8_asksRow]; rfl
theorem q_used (a1 : Int32) (a2 : Int32) : ∃ r σ1 σ2, fX7_used sig0 a1 a2 = some (r, σ1) ∧ fX8_used σ1 a1 a2 = some (r, σ2) := by
  refine ⟨-2, sig0, sig0, ?_, ?_⟩
  · unfold fX7_used; rw [g6_hasClaim]; rfl
  · unfold fX8_used; rw [g8_isClaim, bp_s, g8_asksRow]; rfl
theorem q_same (a1 : Int32) (a2 : Int32) (a3 : Int32) : ∃ r σ1 σ2, fX7_same sig0 a1 a2 a3 = some (r, σ1) ∧ fX8_same σ1 a1 a2 a3 = some (r, σ2) := by
  refine ⟨-2, sig0, sig0, ?_, ?_⟩
  · unfold fX7_same; rw [g6_hasClaim]; rfl
  · unfold fX8_same
    rcases o8_isSlot a1 with ⟨_, e⟩ | ⟨_, e⟩
    · rw [e, bp_s, if_neg (by decide)]
      rcases o8_isSlot a2 with ⟨_, e⟩ | ⟨_, e⟩
      · rw [e]; rfl
      · rw [e]; rfl
    · rw [e]; rfl
theorem q_shortest (a1 : Int32) : ∃ r σ1, fX7_shortest sig0 a1 = some (r, σ1) ∧ fX8_shortest σ1 a1 = some r := by
  refine ⟨-2, sig0, ?_, ?_⟩
  · unfold fX7_shortest; rw [g6_hasClaim]; rfl
  · unfold fX8_shortest; rw [g8_isClaim]; rfl
theorem q_proof (a1 : Int32) : ∃ r σ1, fX7_proof sig0 a1 = some (r, σ1) ∧ fX8_proof σ1 a1 = some r := by
  refine ⟨-2, sig0, ?_, ?_⟩
  · unfold fX7_proof; rw [g6_hasClaim]; rfl
  · unfold fX8_proof; rw [g8_isClaim]; rfl
theorem q_bite (a1 : Int32) (a2 : Int32) : ∃ r σ1, fX7_bite sig0 a1 a2 = some (r, σ1) ∧ fX8_bite σ1 a1 a2 = some r := by
  refine ⟨-2, sig0, ?_, ?_⟩
  · unfold fX7_bite; rw [g6_hasClaim]; rfl
  · unfold fX8_bite; rw [g8_isClaim]; rfl
theorem q_proofs (a1 : Int32) : ∃ r σ1, fX7_proofs sig0 a1 = some (r, σ1) ∧ fX8_proofs σ1 a1 = some r := by
  refine ⟨-2, sig0, ?_, ?_⟩
  · unfold fX7_proofs; rw [g6_hasClaim]; rfl
  · unfold fX8_proofs; rw [g8_isClaim]; rfl
theorem q_needs (a1 : Int32) : ∃ r σ1, fX7_needs sig0 a1 = some (r, σ1) ∧ fX8_needs_ σ1 a1 = some r := by
  refine ⟨-2, sig0, ?_, ?_⟩
  · unfold fX7_needs; rw [g6_hasClaim]; rfl
  · unfold fX8_needs_; rw [g8_isClaim]; rfl
theorem q_rests (a1 : Int32) : ∃ r σ1, fX7_rests sig0 a1 = some (r, σ1) ∧ fX8_rests σ1 a1 = some r := by
  refine ⟨-2, sig0, ?_, ?_⟩
  · unfold fX7_rests; rw [g6_hasStep]; rfl
  · unfold fX8_rests; rw [g8_isStep]; rfl
theorem q_menu (a1 : Int32) : ∃ r σ1 σ2, fX7_menu sig0 a1 = some (r, σ1) ∧ fX8_menu σ1 a1 = some (r, σ2) := by
  refine ⟨-2, sig0, sig0, ?_, ?_⟩
  · unfold fX7_menu; rw [g6_hasGuest]; rfl
  · unfold fX8_menu; rw [g8_isGuest]; rfl
theorem q_course (a1 : Int32) : ∃ r σ1 σ2, fX7_course sig0 a1 = some (r, σ1) ∧ fX8_course σ1 a1 = some (r, σ2) := by
  refine ⟨-2, sig0, sig0, ?_, ?_⟩
  · unfold fX7_course; rw [g6_hasGuest]; rfl
  · unfold fX8_course; rw [g8_isGuest]; rfl
theorem q_dishes (a1 : Int32) : ∃ r σ1 σ2, fX7_dishes sig0 a1 = some (r, σ1) ∧ fX8_dishes σ1 a1 = some (r, σ2) := by
  refine ⟨-2, sig0, sig0, ?_, ?_⟩
  · unfold fX7_dishes; rw [g6_hasGuest]; rfl
  · unfold fX8_dishes; rw [g8_isGuest]; rfl
theorem q_takes (a1 : Int32) (a2 : Int32) : ∃ r σ1, fX7_takes sig0 a1 a2 = some (r, σ1) ∧ fX8_takes_ σ1 a1 a2 = some r := by
  refine ⟨-2, sig0, ?_, ?_⟩
  · unfold fX7_takes; rw [g6_hasGuest]; rfl
  · unfold fX8_takes_; rw [g8_isGuest]; rfl
theorem q_who (a1 : Int32) : ∃ r σ1, fX7_who sig0 a1 = some (r, σ1) ∧ fX8_who σ1 a1 = some r := by
  refine ⟨-2, sig0, ?_, ?_⟩
  · unfold fX7_who; rw [g6_hasClaim]; rfl
  · unfold fX8_who; rw [g8_isClaim]; rfl
theorem q_host (a1 : Int32) : ∃ r σ1, fX7_host sig0 a1 = some (r, σ1) ∧ fX8_host σ1 a1 = some r := by
  refine ⟨-2, sig0, ?_, ?_⟩
  · unfold fX7_host; rw [g6_isGuestSet]; rfl
  · rfl
theorem q_lemma (a1 : Int32) : ∃ r σ1 σ2, fX7_lemma sig0 a1 = some (r, σ1) ∧ fX8_lemma σ1 a1 = some (r, σ2) := by
  refine ⟨-2, sig0, sig0, ?_, ?_⟩
  · unfold fX7_lemma; rw [g6_hasGuest]; rfl
  · unfold fX8_lemma; rw [g8_isGuest]; rfl
theorem q_brings (a1 : Int32) : ∃ r σ1 σ2, fX7_brings sig0 a1 = some (r, σ1) ∧ fX8_brings σ1 a1 = some (r, σ2) := by
  refine ⟨-2, sig0, sig0, ?_, ?_⟩
  · unfold fX7_brings; rw [g6_hasGuest]; rfl
  · unfold fX8_brings; rw [g8_isGuest]; rfl
theorem q_strength (a1 : Int32) : ∃ r, fX7_strength sig0 a1 = some r ∧ fX8_strength sig0 a1 = some r := by
  refine ⟨-2, ?_, ?_⟩
  · unfold fX7_strength; rw [g6_isGuestSet]; rfl
  · rfl
theorem q_together (a1 : Int32) (a2 : Int32) : ∃ r σ1, fX7_together sig0 a1 a2 = some (r, σ1) ∧ fX8_together σ1 a1 a2 = some r := by
  refine ⟨-2, sig0, ?_, ?_⟩
  · unfold fX7_together; rw [g6_isGuestSet]; rfl
  · rfl
theorem q_fewest (a1 : Int32) : ∃ r σ1, fX7_fewest sig0 a1 = some (r, σ1) ∧ fX8_fewest σ1 a1 = some r := by
  refine ⟨-2, sig0, ?_, ?_⟩
  · unfold fX7_fewest; rw [g6_hasClaim]; rfl
  · unfold fX8_fewest; rw [g8_isClaim]; rfl
theorem q_team (a1 : Int32) : ∃ r σ1, fX7_team sig0 a1 = some (r, σ1) ∧ fX8_team σ1 a1 = some r := by
  refine ⟨-2, sig0, ?_, ?_⟩
  · unfold fX7_team; rw [g6_hasClaim]; rfl
  · unfold fX8_team; rw [g8_isClaim]; rfl
theorem q_claims (a1 : Int32) (a2 : Int32) : ∃ r σ1 σ2, fX7_claims sig0 a1 a2 = some (r, σ1) ∧ fX8_claims σ1 a1 a2 = some (r, σ2) := by
  refine ⟨-2, sig0, sig0, ?_, ?_⟩
  · unfold fX7_claims; rw [g6_hasClaim]; rfl
  · unfold fX8_claims; rw [g8_isClaim]; rfl
theorem q_outcome (a1 : Int32) (a2 : Int32) : ∃ r σ1 σ2, fX7_outcome sig0 a1 a2 = some (r, σ1) ∧ fX8_outcome σ1 a1 a2 = some (r, σ2) := by
  refine ⟨-2, sig0, sig0, ?_, ?_⟩
  · unfold fX7_outcome; rw [g6_hasClaim]; rfl
  · unfold fX8_outcome; rw [g8_isClaim]; rfl
theorem q_kitchen (a1 : Int32) (a2 : Int32) : ∃ r σ1 σ2, fX7_kitchen sig0 a1 a2 = some (r, σ1) ∧ fX8_kitchen σ1 a1 a2 = some (r, σ2) := by
  refine ⟨-2, sig0, sig0, ?_, ?_⟩
  · unfold fX7_kitchen
    by_cases h : a2 < 0
    · rw [if_pos h]; rfl
    · rw [if_neg h]
      by_cases h' : 2 < a2
      · rw [if_pos h']; rfl
      · rw [if_neg h']; rfl
  · unfold fX8_kitchen
    rcases @l_in a2.toInt64 0 2 with ⟨_, _, e⟩ | ⟨_, e⟩
    · rw [e, bp_s, g8_asksKitchen]; rfl
    · rw [e, bp_s, g8_asksKitchen]; rfl
theorem q_when (a1 : Int32) (a2 : Int32) : ∃ r σ1 σ2, fX7_when sig0 a1 a2 = some (r, σ1) ∧ fX8_when σ1 a1 a2 = some (r, σ2) := by
  refine ⟨-2, sig0, sig0, ?_, ?_⟩
  · unfold fX7_when; rw [g6_hasClaim]; rfl
  · unfold fX8_when; rw [g8_isClaim, bp_s, g8_asksKitchen]; rfl
theorem q_shares (a1 : Int32) (a2 : Int32) : ∃ r σ1 σ2, fX7_shares sig0 a1 a2 = some (r, σ1) ∧ fX8_shares σ1 a1 a2 = some (r, σ2) := by
  refine ⟨-2, sig0, sig0, ?_, ?_⟩
  · unfold fX7_shares; rw [g6_hasClaim]; rfl
  · unfold fX8_shares; rw [g8_isClaim, bp_s, g8_asksKitchen]; rfl
theorem q_busy (a1 : Int32) (a2 : Int32) (a3 : Int32) : ∃ r σ1 σ2, fX7_busy sig0 a1 a2 a3 = some (r, σ1) ∧ fX8_busy σ1 a1 a2 a3 = some (r, σ2) := by
  refine ⟨-2, sig0, sig0, ?_, ?_⟩
  · unfold fX7_busy; rw [g6_hasGuest]; rfl
  · unfold fX8_busy
    rw [g8_isGuest, bp_s, if_pos rfl]
    show bp (fX8_asksKitchen sig0 a1 0) _ = _
    rw [g8_asksKitchen]; rfl
theorem q_duel  : ∃ r σ1 σ2, fX7_duel sig0  = some (r, σ1) ∧ fX8_duel σ1  = some (r, σ2) := by
  refine ⟨-2, sig0, sig0, ?_, ?_⟩
  · rfl
  · rfl
theorem q_move  : ∃ r σ1 σ2, fX7_move sig0  = some (r, σ1) ∧ fX8_move σ1  = some (r, σ2) := by
  refine ⟨-2, sig0, sig0, ?_, ?_⟩
  · rfl
  · rfl
theorem q_lasts  : ∃ r σ1 σ2, fX7_lasts sig0  = some (r, σ1) ∧ fX8_lasts σ1  = some (r, σ2) := by
  refine ⟨-2, sig0, sig0, ?_, ?_⟩
  · rfl
  · rfl
theorem q_idle  : ∃ r, fX7_idle sig0  = some r ∧ fX8_idle sig0  = some r := by
  refine ⟨-2, ?_, ?_⟩
  · rfl
  · rfl
theorem q_core  : ∃ r σ1, fX7_core sig0  = some (r, σ1) ∧ fX8_core σ1  = some r := by
  refine ⟨-2, sig0, ?_, ?_⟩
  · rfl
  · rfl
theorem q_cored  : ∃ r σ1, fX7_cored sig0  = some (r, σ1) ∧ fX8_cored σ1  = some r := by
  refine ⟨-2, sig0, ?_, ?_⟩
  · rfl
  · rfl
theorem q_likely (a1 : Int32) (a2 : Int32) : ∃ r, fX7_likely sig0 a1 a2 = some r ∧ fX8_likely sig0 a1 a2 = some r := by
  refine ⟨-2, ?_, ?_⟩
  · unfold fX7_likely; rw [g6_hasClaim]; rfl
  · unfold fX8_likely; rw [g8_isClaim]; rfl
theorem q_ask  : ∃ r, fX7_ask sig0  = some r ∧ fX8_ask sig0  = some r := by
  refine ⟨-2, ?_, ?_⟩
  · rfl
  · rfl
theorem q_leaves  : ∃ r, fX7_leaves sig0  = some r ∧ fX8_leaves sig0  = some r := by
  refine ⟨-2, ?_, ?_⟩
  · rfl
  · rfl
theorem q_unlike  : ∃ r, fX7_unlike sig0  = some r ∧ fX8_unlike sig0  = some r := by
  refine ⟨-2, ?_, ?_⟩
  · rfl
  · rfl
theorem q_falls (a1 : Int32) : ∃ r σ1, fX7_falls sig0 a1 = some (r, σ1) ∧ fX8_falls σ1 a1 = some r := by
  refine ⟨-2, sig0, ?_, ?_⟩
  · unfold fX7_falls; rw [g6_hasClaim]; rfl
  · unfold fX8_falls; rw [g8_isClaim]; rfl
theorem q_spare (a1 : Int32) : ∃ r σ1, fX7_spare sig0 a1 = some (r, σ1) ∧ fX8_spare σ1 a1 = some r := by
  refine ⟨-2, sig0, ?_, ?_⟩
  · unfold fX7_spare; rw [g6_isClaimSet]; rfl
  · rfl
theorem q_spared (a1 : Int32) : ∃ r σ1, fX7_spared sig0 a1 = some (r, σ1) ∧ fX8_spared σ1 a1 = some r := by
  refine ⟨-2, sig0, ?_, ?_⟩
  · unfold fX7_spared; rw [g6_isClaimSet]; rfl
  · rfl
theorem q_salt (a1 : Int32) (a2 : Int32) : ∃ r σ1 σ2, fX7_salt sig0 a1 a2 = some (r, σ1) ∧ fX8_salt σ1 a1 a2 = some (r, σ2) := by
  refine ⟨-2, sig0, sig0, ?_, ?_⟩
  · unfold fX7_salt; rw [g6_hasClaim]; rfl
  · unfold fX8_salt; rw [g8_isClaim]; rfl
theorem q_ate (a1 : Int32) : ∃ r σ1, fX7_ate sig0 a1 = some (r, σ1) ∧ fX8_ate σ1 a1 = some r := by
  refine ⟨-2, sig0, ?_, ?_⟩
  · rfl
  · unfold fX8_ate; rw [g8_asksEaten]; rfl
theorem q_borrowed (a1 : Int32) (a2 : Int32) : ∃ r σ1, fX7_borrowed sig0 a1 a2 = some (r, σ1) ∧ fX8_borrowed σ1 a1 a2 = some r := by
  refine ⟨-2, sig0, ?_, ?_⟩
  · unfold fX7_borrowed; rw [g6_hasGuest]; rfl
  · unfold fX8_borrowed; rw [g8_isGuest, bp_s, g8_asksEaten]; rfl
theorem q_lent (a1 : Int32) (a2 : Int32) : ∃ r σ1, fX7_lent sig0 a1 a2 = some (r, σ1) ∧ fX8_lent σ1 a1 a2 = some r := by
  refine ⟨-2, sig0, ?_, ?_⟩
  · unfold fX7_lent; rw [g6_hasGuest]; rfl
  · unfold fX8_lent; rw [g8_isGuest, bp_s, g8_asksEaten]; rfl
theorem q_adds (a1 : Int32) (a2 : Int32) : ∃ r σ1 σ2, fX7_adds sig0 a1 a2 = some (r, σ1) ∧ fX8_adds σ1 a1 a2 = some (r, σ2) := by
  refine ⟨-2, sig0, sig0, ?_, ?_⟩
  · show bp (fX6_hasClaim sig0 3 a1) _ = _
    rw [g6_hasClaim]; rfl
  · unfold fX8_adds; rw [g8_isClaim]; rfl
theorem q_drops  : ∃ r σ1 σ2, fX7_drops sig0  = some (r, σ1) ∧ fX8_drops σ1  = some (r, σ2) := by
  refine ⟨-2, sig0, sig0, ?_, ?_⟩
  · rfl
  · rfl
theorem q_teach (a1 : Int32) (a2 : Int32) (a3 : Int32) : ∃ r σ1 σ2, fX7_teach sig0 a1 a2 a3 = some (r, σ1) ∧ fX8_teach σ1 a1 a2 a3 = some (r, σ2) := by
  refine ⟨-2, sig0, sig0, ?_, ?_⟩
  · unfold fX7_teach; rw [g6_hasGuest]; rfl
  · unfold fX8_teach; rw [g8_isGuest]; rfl
theorem q_drawn (a1 : Int32) : ∃ r, fX7_drawn sig0 a1 = some r ∧ fX8_drawn sig0 a1 = some r := by
  refine ⟨-2, ?_, ?_⟩
  · rfl
  · rfl
theorem q_feast (a1 : Int32) (a2 : Int32) : ∃ r σ1 σ2, fX7_feast sig0 a1 a2 = some (r, σ1) ∧ fX8_feast σ1 a1 a2 = some (r, σ2) := by
  refine ⟨-2, sig0, sig0, ?_, ?_⟩
  · unfold fX7_feast; rw [g6_hasGuest]; rfl
  · unfold fX8_feast
    rcases o8_isSeed a1 with e | e
    · rw [e]; rfl
    · rw [e, bp_s, if_neg (by decide), g8_isGuest]; rfl
theorem q_mean (a1 : Int32) (a2 : Int32) (a3 : Int32) (a4 : Int32) : ∃ r σ1 σ2, fX7_mean sig0 a1 a2 a3 a4 = some (r, σ1) ∧ fX8_mean σ1 a1 a2 a3 a4 = some (r, σ2) := by
  refine ⟨-2, sig0, sig0, ?_, ?_⟩
  · unfold fX7_mean; rw [g6_hasGuest]; rfl
  · unfold fX8_mean
    rcases o8_isSeed a1 with e | e
    · rw [e]; rfl
    · rw [e, bp_s, if_neg (by decide)]
      rcases @l_in a2.toInt64 1 20 with ⟨_, _, e⟩ | ⟨_, e⟩
      · rw [e, bp_s, if_neg (by decide), g8_isGuest]; rfl
      · rw [e]; rfl
theorem q_count (a1 : Int32) : ∃ r, fX7_count sig0 a1 = some r ∧ fX8_count sig0 a1 = some r := by
  by_cases h0 : a1 = 0
  · subst h0; exact ⟨0, by decide +kernel, by decide +kernel⟩
  by_cases h1 : a1 = 1
  · subst h1; exact ⟨0, by decide +kernel, by decide +kernel⟩
  by_cases h2 : a1 = 2
  · subst h2; exact ⟨0, by decide +kernel, by decide +kernel⟩
  by_cases h3 : a1 = 3
  · subst h3; exact ⟨0, by decide +kernel, by decide +kernel⟩
  by_cases h4 : a1 = 4
  · subst h4; exact ⟨0, by decide +kernel, by decide +kernel⟩
  by_cases h5 : a1 = 5
  · subst h5; exact ⟨0, by decide +kernel, by decide +kernel⟩
  by_cases h6 : a1 = 6
  · subst h6; exact ⟨0, by decide +kernel, by decide +kernel⟩
  by_cases h7 : a1 = 7
  · subst h7; exact ⟨0, by decide +kernel, by decide +kernel⟩
  by_cases h8 : a1 = 8
  · subst h8; exact ⟨0, by decide +kernel, by decide +kernel⟩
  refine ⟨-1, ?_, ?_⟩
  · unfold fX7_count; rw [if_neg h0, if_neg h1, if_neg h2, if_neg h3, if_neg h4, if_neg h5, if_neg h6, if_neg h7, if_neg h8]
  · show (if a1 = 0 then _ else if a1 = 1 then _ else if a1 = 2 then _ else if a1 = 3 then _ else if a1 = 4 then _ else if a1 = 5 then _ else if a1 = 6 then _ else if a1 = 7 then _ else if a1 = 8 then _ else some (-1)) = some (-1 : Int32)
    rw [if_neg h0, if_neg h1, if_neg h2, if_neg h3, if_neg h4, if_neg h5, if_neg h6, if_neg h7, if_neg h8]
theorem q_image (a1 : Int32) : ∃ r σ1 σ2, fX7_image sig0 a1 = some (r, σ1) ∧ fX8_image σ1 a1 = some (r, σ2) := by
  obtain ⟨r, σ1, σ2, h1, h2, _⟩ := t_image inv0 a1
  exact ⟨r, σ1, σ2, h1, h2⟩
theorem q_back (a1 : Int32) : ∃ r σ1 σ2, fX7_back sig0 a1 = some (r, σ1) ∧ fX8_back σ1 a1 = some (r, σ2) := by
  obtain ⟨r, σ1, σ2, h1, h2, _⟩ := t_back inv0 a1
  exact ⟨r, σ1, σ2, h1, h2⟩
theorem q_row (a1 : Int32) (a2 : Int32) (a3 : Int32) : ∃ r σ1 σ2, fX7_row sig0 a1 a2 a3 = some (r, σ1) ∧ fX8_row σ1 a1 a2 a3 = some (r, σ2) := by
  obtain ⟨r, σ1, σ2, h1, h2, _⟩ := t_row inv0 a1 a2 a3
  exact ⟨r, σ1, σ2, h1, h2⟩
theorem q_write (a1 : Int32) (a2 : Int32) (a3 : Int64) : ∃ r σ1 σ2, fX7_write sig0 a1 a2 a3 = some (r, σ1) ∧ fX8_write σ1 a1 a2 a3 = some (r, σ2) := by
  obtain ⟨r, σ1, σ2, h1, h2, _⟩ := t_write inv0 a1 a2 a3
  exact ⟨r, σ1, σ2, h1, h2⟩
theorem q_paste (a1 : Int32) (a2 : Int32) (a3 : Int32) (a4 : Int32) (a5 : Int32) : ∃ r σ1 σ2, fX7_paste sig0 a1 a2 a3 a4 a5 = some (r, σ1) ∧ fX8_paste σ1 a1 a2 a3 a4 a5 = some (r, σ2) := by
  obtain ⟨r, σ1, σ2, h1, h2, _⟩ := t_paste inv0 a1 a2 a3 a4 a5
  exact ⟨r, σ1, σ2, h1, h2⟩
theorem p1_stop (σ : St) (xs : Nat → Int32) (x : Int32) (hx : x = 6) : fL_l18 6 xs 1 σ x = some 1 := by
  subst hx
  show fL_B18 6 xs (fL_l18 6 xs 0) σ 6 = some 1
  unfold fL_B18
  rw [if_pos (by decide)]
theorem c_352 (xs : Nat → Int32) : fL_b352 6 xs (fL_l18 6 xs 1) sig0 0 = some 1 := by
  obtain ⟨r, σ1, σ2, h1, h2⟩ := q_feed (xs ((0 : Int32) + (1 : Int32)).toNatClampNeg) (xs ((0 : Int32) + (2 : Int32)).toNatClampNeg) (xs ((0 : Int32) + (3 : Int32)).toNatClampNeg) (xs ((0 : Int32) + (4 : Int32)).toNatClampNeg) (xs ((0 : Int32) + (5 : Int32)).toNatClampNeg)
  unfold fL_b352
  repeat rw [gd_t (by decide)]
  rw [h1, bs_s]
  repeat rw [gd_t (by decide)]
  rw [h2, bs_s, if_pos rfl]
  exact p1_stop _ xs _ rfl
theorem c_415 (xs : Nat → Int32) : fL_b415 6 xs (fL_l18 6 xs 1) sig0 0 = some 1 := by
  obtain ⟨r, σ1, σ2, h1, h2⟩ := q_end (xs ((0 : Int32) + (1 : Int32)).toNatClampNeg)
  unfold fL_b415
  repeat rw [gd_t (by decide)]
  rw [h1, bs_s]
  repeat rw [gd_t (by decide)]
  rw [h2, bs_s, if_pos rfl]
  exact p1_stop _ xs _ rfl
theorem c_438 (xs : Nat → Int32) : fL_b438 6 xs (fL_l18 6 xs 1) sig0 0 = some 1 := by
  obtain ⟨r, σ1, σ2, h1, h2⟩ := q_table 
  unfold fL_b438
  repeat rw [gd_t (by decide)]
  rw [h1, bs_s]
  repeat rw [gd_t (by decide)]
  rw [h2, bs_s, if_pos rfl]
  exact p1_stop _ xs _ rfl
theorem c_451 (xs : Nat → Int32) : fL_b451 6 xs (fL_l18 6 xs 1) sig0 0 = some 1 := by
  obtain ⟨r, h1, h2⟩ := q_fault (xs ((0 : Int32) + (1 : Int32)).toNatClampNeg)
  unfold fL_b451
  repeat rw [gd_t (by decide)]
  rw [h1, bp_s]
  repeat rw [gd_t (by decide)]
  rw [h2, bp_s, if_pos rfl]
  exact p1_stop _ xs _ rfl
theorem c_474 (xs : Nat → Int32) : fL_b474 6 xs (fL_l18 6 xs 1) sig0 0 = some 1 := by
  obtain ⟨r, h1, h2⟩ := q_claim (xs ((0 : Int32) + (1 : Int32)).toNatClampNeg) (xs ((0 : Int32) + (2 : Int32)).toNatClampNeg)
  unfold fL_b474
  repeat rw [gd_t (by decide)]
  rw [h1, bp_s]
  repeat rw [gd_t (by decide)]
  rw [h2, bp_s, if_pos rfl]
  exact p1_stop _ xs _ rfl
theorem c_507 (xs : Nat → Int32) : fL_b507 6 xs (fL_l18 6 xs 1) sig0 0 = some 1 := by
  obtain ⟨r, h1, h2⟩ := q_holds (xs ((0 : Int32) + (1 : Int32)).toNatClampNeg)
  unfold fL_b507
  repeat rw [gd_t (by decide)]
  rw [h1, bp_s]
  repeat rw [gd_t (by decide)]
  rw [h2, bp_s, if_pos rfl]
  exact p1_stop _ xs _ rfl
theorem c_530 (xs : Nat → Int32) : fL_b530 6 xs (fL_l18 6 xs 1) sig0 0 = some 1 := by
  obtain ⟨r, h1, h2⟩ := q_step (xs ((0 : Int32) + (1 : Int32)).toNatClampNeg) (xs ((0 : Int32) + (2 : Int32)).toNatClampNeg)
  unfold fL_b530
  repeat rw [gd_t (by decide)]
  rw [h1, bp_s]
  repeat rw [gd_t (by decide)]
  rw [h2, bp_s, if_pos rfl]
  exact p1_stop _ xs _ rfl
theorem c_563 (xs : Nat → Int32) : fL_b563 6 xs (fL_l18 6 xs 1) sig0 0 = some 1 := by
  obtain ⟨r, h1, h2⟩ := q_guest (xs ((0 : Int32) + (1 : Int32)).toNatClampNeg) (xs ((0 : Int32) + (2 : Int32)).toNatClampNeg)
  unfold fL_b563
  repeat rw [gd_t (by decide)]
  rw [h1, bp_s]
  repeat rw [gd_t (by decide)]
  rw [h2, bp_s, if_pos rfl]
  exact p1_stop _ xs _ rfl
theorem c_596 (xs : Nat → Int32) : fL_b596 6 xs (fL_l18 6 xs 1) sig0 0 = some 1 := by
  obtain ⟨r, h1, h2⟩ := q_salted 
  unfold fL_b596
  repeat rw [gd_t (by decide)]
  rw [h1, bp_s]
  repeat rw [gd_t (by decide)]
  rw [h2, bp_s, if_pos rfl]
  exact p1_stop _ xs _ rfl
theorem c_609 (xs : Nat → Int32) : fL_b609 6 xs (fL_l18 6 xs 1) sig0 0 = some 1 := by
  obtain ⟨r, h1, h2⟩ := q_follows (xs ((0 : Int32) + (1 : Int32)).toNatClampNeg)
  unfold fL_b609
  repeat rw [gd_t (by decide)]
  rw [h1, bp_s]
  repeat rw [gd_t (by decide)]
  rw [h2, bp_s, if_pos rfl]
  exact p1_stop _ xs _ rfl
theorem c_632 (xs : Nat → Int32) : fL_b632 6 xs (fL_l18 6 xs 1) sig0 0 = some 1 := by
  obtain ⟨r, h1, h2⟩ := q_counter (xs ((0 : Int32) + (1 : Int32)).toNatClampNeg)
  unfold fL_b632
  repeat rw [gd_t (by decide)]
  rw [h1, bp_s]
  repeat rw [gd_t (by decide)]
  rw [h2, bp_s, if_pos rfl]
  exact p1_stop _ xs _ rfl
theorem c_655 (xs : Nat → Int32) : fL_b655 6 xs (fL_l18 6 xs 1) sig0 0 = some 1 := by
  obtain ⟨r, h1, h2⟩ := q_entails (xs ((0 : Int32) + (1 : Int32)).toNatClampNeg) (xs ((0 : Int32) + (2 : Int32)).toNatClampNeg)
  unfold fL_b655
  repeat rw [gd_t (by decide)]
  rw [h1, bp_s]
  repeat rw [gd_t (by decide)]
  rw [h2, bp_s, if_pos rfl]
  exact p1_stop _ xs _ rfl
theorem c_688 (xs : Nat → Int32) : fL_b688 6 xs (fL_l18 6 xs 1) sig0 0 = some 1 := by
  obtain ⟨r, h1, h2⟩ := q_alike (xs ((0 : Int32) + (1 : Int32)).toNatClampNeg)
  unfold fL_b688
  repeat rw [gd_t (by decide)]
  rw [h1, bp_s]
  repeat rw [gd_t (by decide)]
  rw [h2, bp_s, if_pos rfl]
  exact p1_stop _ xs _ rfl
theorem c_711 (xs : Nat → Int32) : fL_b711 6 xs (fL_l18 6 xs 1) sig0 0 = some 1 := by
  obtain ⟨r, h1, h2⟩ := q_falsity (xs ((0 : Int32) + (1 : Int32)).toNatClampNeg)
  unfold fL_b711
  repeat rw [gd_t (by decide)]
  rw [h1, bp_s]
  repeat rw [gd_t (by decide)]
  rw [h2, bp_s, if_pos rfl]
  exact p1_stop _ xs _ rfl
theorem c_734 (xs : Nat → Int32) : fL_b734 6 xs (fL_l18 6 xs 1) sig0 0 = some 1 := by
  obtain ⟨r, σ1, h1, h2⟩ := q_proved 
  unfold fL_b734
  repeat rw [gd_t (by decide)]
  rw [h1, bs_s]
  repeat rw [gd_t (by decide)]
  rw [h2, bp_s, if_pos rfl]
  exact p1_stop _ xs _ rfl
theorem c_747 (xs : Nat → Int32) : fL_b747 6 xs (fL_l18 6 xs 1) sig0 0 = some 1 := by
  obtain ⟨r, σ1, h1, h2⟩ := q_wrong 
  unfold fL_b747
  repeat rw [gd_t (by decide)]
  rw [h1, bs_s]
  repeat rw [gd_t (by decide)]
  rw [h2, bp_s, if_pos rfl]
  exact p1_stop _ xs _ rfl
theorem c_760 (xs : Nat → Int32) : fL_b760 6 xs (fL_l18 6 xs 1) sig0 0 = some 1 := by
  obtain ⟨r, σ1, h1, h2⟩ := q_covered 
  unfold fL_b760
  repeat rw [gd_t (by decide)]
  rw [h1, bs_s]
  repeat rw [gd_t (by decide)]
  rw [h2, bp_s, if_pos rfl]
  exact p1_stop _ xs _ rfl
theorem c_773 (xs : Nat → Int32) : fL_b773 6 xs (fL_l18 6 xs 1) sig0 0 = some 1 := by
  obtain ⟨r, σ1, σ2, h1, h2⟩ := q_reads (xs ((0 : Int32) + (1 : Int32)).toNatClampNeg)
  unfold fL_b773
  repeat rw [gd_t (by decide)]
  rw [h1, bs_s]
  repeat rw [gd_t (by decide)]
  rw [h2, bs_s, if_pos rfl]
  exact p1_stop _ xs _ rfl
theorem c_796 (xs : Nat → Int32) : fL_b796 6 xs (fL_l18 6 xs 1) sig0 0 = some 1 := by
  obtain ⟨r, σ1, σ2, h1, h2⟩ := q_why (xs ((0 : Int32) + (1 : Int32)).toNatClampNeg)
  unfold fL_b796
  repeat rw [gd_t (by decide)]
  rw [h1, bs_s]
  repeat rw [gd_t (by decide)]
  rw [h2, bs_s, if_pos rfl]
  exact p1_stop _ xs _ rfl
theorem c_819 (xs : Nat → Int32) : fL_b819 6 xs (fL_l18 6 xs 1) sig0 0 = some 1 := by
  obtain ⟨r, σ1, σ2, h1, h2⟩ := q_reached (xs ((0 : Int32) + (1 : Int32)).toNatClampNeg)
  unfold fL_b819
  repeat rw [gd_t (by decide)]
  rw [h1, bs_s]
  repeat rw [gd_t (by decide)]
  rw [h2, bs_s, if_pos rfl]
  exact p1_stop _ xs _ rfl
theorem c_842 (xs : Nat → Int32) : fL_b842 6 xs (fL_l18 6 xs 1) sig0 0 = some 1 := by
  obtain ⟨r, h1, h2⟩ := q_eats (xs ((0 : Int32) + (1 : Int32)).toNatClampNeg) (xs ((0 : Int32) + (2 : Int32)).toNatClampNeg)
  unfold fL_b842
  repeat rw [gd_t (by decide)]
  rw [h1, bp_s]
  repeat rw [gd_t (by decide)]
  rw [h2, bp_s, if_pos rfl]
  exact p1_stop _ xs _ rfl
theorem c_875 (xs : Nat → Int32) : fL_b875 6 xs (fL_l18 6 xs 1) sig0 0 = some 1 := by
  obtain ⟨r, σ1, σ2, h1, h2⟩ := q_used (xs ((0 : Int32) + (1 : Int32)).toNatClampNeg) (xs ((0 : Int32) + (2 : Int32)).toNatClampNeg)
  unfold fL_b875
  repeat rw [gd_t (by decide)]
  rw [h1, bs_s]
  repeat rw [gd_t (by decide)]
  rw [h2, bs_s, if_pos rfl]
  exact p1_stop _ xs _ rfl
theorem c_908 (xs : Nat → Int32) : fL_b908 6 xs (fL_l18 6 xs 1) sig0 0 = some 1 := by
  obtain ⟨r, σ1, σ2, h1, h2⟩ := q_same (xs ((0 : Int32) + (1 : Int32)).toNatClampNeg) (xs ((0 : Int32) + (2 : Int32)).toNatClampNeg) (xs ((0 : Int32) + (3 : Int32)).toNatClampNeg)
  unfold fL_b908
  repeat rw [gd_t (by decide)]
  rw [h1, bs_s]
  repeat rw [gd_t (by decide)]
  rw [h2, bs_s, if_pos rfl]
  exact p1_stop _ xs _ rfl
theorem c_951 (xs : Nat → Int32) : fL_b951 6 xs (fL_l18 6 xs 1) sig0 0 = some 1 := by
  obtain ⟨r, σ1, h1, h2⟩ := q_shortest (xs ((0 : Int32) + (1 : Int32)).toNatClampNeg)
  unfold fL_b951
  repeat rw [gd_t (by decide)]
  rw [h1, bs_s]
  repeat rw [gd_t (by decide)]
  rw [h2, bp_s, if_pos rfl]
  exact p1_stop _ xs _ rfl
theorem c_974 (xs : Nat → Int32) : fL_b974 6 xs (fL_l18 6 xs 1) sig0 0 = some 1 := by
  obtain ⟨r, σ1, h1, h2⟩ := q_proof (xs ((0 : Int32) + (1 : Int32)).toNatClampNeg)
  unfold fL_b974
  repeat rw [gd_t (by decide)]
  rw [h1, bs_s]
  repeat rw [gd_t (by decide)]
  rw [h2, bp_s, if_pos rfl]
  exact p1_stop _ xs _ rfl
theorem c_997 (xs : Nat → Int32) : fL_b997 6 xs (fL_l18 6 xs 1) sig0 0 = some 1 := by
  obtain ⟨r, σ1, h1, h2⟩ := q_bite (xs ((0 : Int32) + (1 : Int32)).toNatClampNeg) (xs ((0 : Int32) + (2 : Int32)).toNatClampNeg)
  unfold fL_b997
  repeat rw [gd_t (by decide)]
  rw [h1, bs_s]
  repeat rw [gd_t (by decide)]
  rw [h2, bp_s, if_pos rfl]
  exact p1_stop _ xs _ rfl
theorem c_1030 (xs : Nat → Int32) : fL_b1030 6 xs (fL_l18 6 xs 1) sig0 0 = some 1 := by
  obtain ⟨r, σ1, h1, h2⟩ := q_proofs (xs ((0 : Int32) + (1 : Int32)).toNatClampNeg)
  unfold fL_b1030
  repeat rw [gd_t (by decide)]
  rw [h1, bs_s]
  repeat rw [gd_t (by decide)]
  rw [h2, bp_s, if_pos rfl]
  exact p1_stop _ xs _ rfl
theorem c_1053 (xs : Nat → Int32) : fL_b1053 6 xs (fL_l18 6 xs 1) sig0 0 = some 1 := by
  obtain ⟨r, σ1, h1, h2⟩ := q_needs (xs ((0 : Int32) + (1 : Int32)).toNatClampNeg)
  unfold fL_b1053
  repeat rw [gd_t (by decide)]
  rw [h1, bs_s]
  repeat rw [gd_t (by decide)]
  rw [h2, bp_s, if_pos rfl]
  exact p1_stop _ xs _ rfl
theorem c_1076 (xs : Nat → Int32) : fL_b1076 6 xs (fL_l18 6 xs 1) sig0 0 = some 1 := by
  obtain ⟨r, σ1, h1, h2⟩ := q_rests (xs ((0 : Int32) + (1 : Int32)).toNatClampNeg)
  unfold fL_b1076
  repeat rw [gd_t (by decide)]
  rw [h1, bs_s]
  repeat rw [gd_t (by decide)]
  rw [h2, bp_s, if_pos rfl]
  exact p1_stop _ xs _ rfl
theorem c_1099 (xs : Nat → Int32) : fL_b1099 6 xs (fL_l18 6 xs 1) sig0 0 = some 1 := by
  obtain ⟨r, σ1, σ2, h1, h2⟩ := q_menu (xs ((0 : Int32) + (1 : Int32)).toNatClampNeg)
  unfold fL_b1099
  repeat rw [gd_t (by decide)]
  rw [h1, bs_s]
  repeat rw [gd_t (by decide)]
  rw [h2, bs_s, if_pos rfl]
  exact p1_stop _ xs _ rfl
theorem c_1122 (xs : Nat → Int32) : fL_b1122 6 xs (fL_l18 6 xs 1) sig0 0 = some 1 := by
  obtain ⟨r, σ1, σ2, h1, h2⟩ := q_course (xs ((0 : Int32) + (1 : Int32)).toNatClampNeg)
  unfold fL_b1122
  repeat rw [gd_t (by decide)]
  rw [h1, bs_s]
  repeat rw [gd_t (by decide)]
  rw [h2, bs_s, if_pos rfl]
  exact p1_stop _ xs _ rfl
theorem c_1145 (xs : Nat → Int32) : fL_b1145 6 xs (fL_l18 6 xs 1) sig0 0 = some 1 := by
  obtain ⟨r, σ1, σ2, h1, h2⟩ := q_dishes (xs ((0 : Int32) + (1 : Int32)).toNatClampNeg)
  unfold fL_b1145
  repeat rw [gd_t (by decide)]
  rw [h1, bs_s]
  repeat rw [gd_t (by decide)]
  rw [h2, bs_s, if_pos rfl]
  exact p1_stop _ xs _ rfl
theorem c_1168 (xs : Nat → Int32) : fL_b1168 6 xs (fL_l18 6 xs 1) sig0 0 = some 1 := by
  obtain ⟨r, σ1, h1, h2⟩ := q_takes (xs ((0 : Int32) + (1 : Int32)).toNatClampNeg) (xs ((0 : Int32) + (2 : Int32)).toNatClampNeg)
  unfold fL_b1168
  repeat rw [gd_t (by decide)]
  rw [h1, bs_s]
  repeat rw [gd_t (by decide)]
  rw [h2, bp_s, if_pos rfl]
  exact p1_stop _ xs _ rfl
theorem c_1201 (xs : Nat → Int32) : fL_b1201 6 xs (fL_l18 6 xs 1) sig0 0 = some 1 := by
  obtain ⟨r, σ1, h1, h2⟩ := q_who (xs ((0 : Int32) + (1 : Int32)).toNatClampNeg)
  unfold fL_b1201
  repeat rw [gd_t (by decide)]
  rw [h1, bs_s]
  repeat rw [gd_t (by decide)]
  rw [h2, bp_s, if_pos rfl]
  exact p1_stop _ xs _ rfl
theorem c_1224 (xs : Nat → Int32) : fL_b1224 6 xs (fL_l18 6 xs 1) sig0 0 = some 1 := by
  obtain ⟨r, σ1, h1, h2⟩ := q_host (xs ((0 : Int32) + (1 : Int32)).toNatClampNeg)
  unfold fL_b1224
  repeat rw [gd_t (by decide)]
  rw [h1, bs_s]
  repeat rw [gd_t (by decide)]
  rw [h2, bp_s, if_pos rfl]
  exact p1_stop _ xs _ rfl
theorem c_1247 (xs : Nat → Int32) : fL_b1247 6 xs (fL_l18 6 xs 1) sig0 0 = some 1 := by
  obtain ⟨r, σ1, σ2, h1, h2⟩ := q_lemma (xs ((0 : Int32) + (1 : Int32)).toNatClampNeg)
  unfold fL_b1247
  repeat rw [gd_t (by decide)]
  rw [h1, bs_s]
  repeat rw [gd_t (by decide)]
  rw [h2, bs_s, if_pos rfl]
  exact p1_stop _ xs _ rfl
theorem c_1270 (xs : Nat → Int32) : fL_b1270 6 xs (fL_l18 6 xs 1) sig0 0 = some 1 := by
  obtain ⟨r, σ1, σ2, h1, h2⟩ := q_brings (xs ((0 : Int32) + (1 : Int32)).toNatClampNeg)
  unfold fL_b1270
  repeat rw [gd_t (by decide)]
  rw [h1, bs_s]
  repeat rw [gd_t (by decide)]
  rw [h2, bs_s, if_pos rfl]
  exact p1_stop _ xs _ rfl
theorem c_1293 (xs : Nat → Int32) : fL_b1293 6 xs (fL_l18 6 xs 1) sig0 0 = some 1 := by
  obtain ⟨r, h1, h2⟩ := q_strength (xs ((0 : Int32) + (1 : Int32)).toNatClampNeg)
  unfold fL_b1293
  repeat rw [gd_t (by decide)]
  rw [h1, bp_s]
  repeat rw [gd_t (by decide)]
  rw [h2, bp_s, if_pos rfl]
  exact p1_stop _ xs _ rfl
theorem c_1316 (xs : Nat → Int32) : fL_b1316 6 xs (fL_l18 6 xs 1) sig0 0 = some 1 := by
  obtain ⟨r, σ1, h1, h2⟩ := q_together (xs ((0 : Int32) + (1 : Int32)).toNatClampNeg) (xs ((0 : Int32) + (2 : Int32)).toNatClampNeg)
  unfold fL_b1316
  repeat rw [gd_t (by decide)]
  rw [h1, bs_s]
  repeat rw [gd_t (by decide)]
  rw [h2, bp_s, if_pos rfl]
  exact p1_stop _ xs _ rfl
theorem c_1349 (xs : Nat → Int32) : fL_b1349 6 xs (fL_l18 6 xs 1) sig0 0 = some 1 := by
  obtain ⟨r, σ1, h1, h2⟩ := q_fewest (xs ((0 : Int32) + (1 : Int32)).toNatClampNeg)
  unfold fL_b1349
  repeat rw [gd_t (by decide)]
  rw [h1, bs_s]
  repeat rw [gd_t (by decide)]
  rw [h2, bp_s, if_pos rfl]
  exact p1_stop _ xs _ rfl
theorem c_1372 (xs : Nat → Int32) : fL_b1372 6 xs (fL_l18 6 xs 1) sig0 0 = some 1 := by
  obtain ⟨r, σ1, h1, h2⟩ := q_team (xs ((0 : Int32) + (1 : Int32)).toNatClampNeg)
  unfold fL_b1372
  repeat rw [gd_t (by decide)]
  rw [h1, bs_s]
  repeat rw [gd_t (by decide)]
  rw [h2, bp_s, if_pos rfl]
  exact p1_stop _ xs _ rfl
theorem c_1395 (xs : Nat → Int32) : fL_b1395 6 xs (fL_l18 6 xs 1) sig0 0 = some 1 := by
  obtain ⟨r, σ1, σ2, h1, h2⟩ := q_claims (xs ((0 : Int32) + (1 : Int32)).toNatClampNeg) (xs ((0 : Int32) + (2 : Int32)).toNatClampNeg)
  unfold fL_b1395
  repeat rw [gd_t (by decide)]
  rw [h1, bs_s]
  repeat rw [gd_t (by decide)]
  rw [h2, bs_s, if_pos rfl]
  exact p1_stop _ xs _ rfl
theorem c_1428 (xs : Nat → Int32) : fL_b1428 6 xs (fL_l18 6 xs 1) sig0 0 = some 1 := by
  obtain ⟨r, σ1, σ2, h1, h2⟩ := q_outcome (xs ((0 : Int32) + (1 : Int32)).toNatClampNeg) (xs ((0 : Int32) + (2 : Int32)).toNatClampNeg)
  unfold fL_b1428
  repeat rw [gd_t (by decide)]
  rw [h1, bs_s]
  repeat rw [gd_t (by decide)]
  rw [h2, bs_s, if_pos rfl]
  exact p1_stop _ xs _ rfl
theorem c_1461 (xs : Nat → Int32) : fL_b1461 6 xs (fL_l18 6 xs 1) sig0 0 = some 1 := by
  obtain ⟨r, σ1, σ2, h1, h2⟩ := q_kitchen (xs ((0 : Int32) + (1 : Int32)).toNatClampNeg) (xs ((0 : Int32) + (2 : Int32)).toNatClampNeg)
  unfold fL_b1461
  repeat rw [gd_t (by decide)]
  rw [h1, bs_s]
  repeat rw [gd_t (by decide)]
  rw [h2, bs_s, if_pos rfl]
  exact p1_stop _ xs _ rfl
theorem c_1494 (xs : Nat → Int32) : fL_b1494 6 xs (fL_l18 6 xs 1) sig0 0 = some 1 := by
  obtain ⟨r, σ1, σ2, h1, h2⟩ := q_when (xs ((0 : Int32) + (1 : Int32)).toNatClampNeg) (xs ((0 : Int32) + (2 : Int32)).toNatClampNeg)
  unfold fL_b1494
  repeat rw [gd_t (by decide)]
  rw [h1, bs_s]
  repeat rw [gd_t (by decide)]
  rw [h2, bs_s, if_pos rfl]
  exact p1_stop _ xs _ rfl
theorem c_1527 (xs : Nat → Int32) : fL_b1527 6 xs (fL_l18 6 xs 1) sig0 0 = some 1 := by
  obtain ⟨r, σ1, σ2, h1, h2⟩ := q_shares (xs ((0 : Int32) + (1 : Int32)).toNatClampNeg) (xs ((0 : Int32) + (2 : Int32)).toNatClampNeg)
  unfold fL_b1527
  repeat rw [gd_t (by decide)]
  rw [h1, bs_s]
  repeat rw [gd_t (by decide)]
  rw [h2, bs_s, if_pos rfl]
  exact p1_stop _ xs _ rfl
theorem c_1560 (xs : Nat → Int32) : fL_b1560 6 xs (fL_l18 6 xs 1) sig0 0 = some 1 := by
  obtain ⟨r, σ1, σ2, h1, h2⟩ := q_busy (xs ((0 : Int32) + (1 : Int32)).toNatClampNeg) (xs ((0 : Int32) + (2 : Int32)).toNatClampNeg) (xs ((0 : Int32) + (3 : Int32)).toNatClampNeg)
  unfold fL_b1560
  repeat rw [gd_t (by decide)]
  rw [h1, bs_s]
  repeat rw [gd_t (by decide)]
  rw [h2, bs_s, if_pos rfl]
  exact p1_stop _ xs _ rfl
theorem c_1603 (xs : Nat → Int32) : fL_b1603 6 xs (fL_l18 6 xs 1) sig0 0 = some 1 := by
  obtain ⟨r, σ1, σ2, h1, h2⟩ := q_duel 
  unfold fL_b1603
  repeat rw [gd_t (by decide)]
  rw [h1, bs_s]
  repeat rw [gd_t (by decide)]
  rw [h2, bs_s, if_pos rfl]
  exact p1_stop _ xs _ rfl
theorem c_1616 (xs : Nat → Int32) : fL_b1616 6 xs (fL_l18 6 xs 1) sig0 0 = some 1 := by
  obtain ⟨r, σ1, σ2, h1, h2⟩ := q_move 
  unfold fL_b1616
  repeat rw [gd_t (by decide)]
  rw [h1, bs_s]
  repeat rw [gd_t (by decide)]
  rw [h2, bs_s, if_pos rfl]
  exact p1_stop _ xs _ rfl
theorem c_1629 (xs : Nat → Int32) : fL_b1629 6 xs (fL_l18 6 xs 1) sig0 0 = some 1 := by
  obtain ⟨r, σ1, σ2, h1, h2⟩ := q_lasts 
  unfold fL_b1629
  repeat rw [gd_t (by decide)]
  rw [h1, bs_s]
  repeat rw [gd_t (by decide)]
  rw [h2, bs_s, if_pos rfl]
  exact p1_stop _ xs _ rfl
theorem c_1642 (xs : Nat → Int32) : fL_b1642 6 xs (fL_l18 6 xs 1) sig0 0 = some 1 := by
  obtain ⟨r, h1, h2⟩ := q_idle 
  unfold fL_b1642
  repeat rw [gd_t (by decide)]
  rw [h1, bp_s]
  repeat rw [gd_t (by decide)]
  rw [h2, bp_s, if_pos rfl]
  exact p1_stop _ xs _ rfl
theorem c_1655 (xs : Nat → Int32) : fL_b1655 6 xs (fL_l18 6 xs 1) sig0 0 = some 1 := by
  obtain ⟨r, σ1, h1, h2⟩ := q_core 
  unfold fL_b1655
  repeat rw [gd_t (by decide)]
  rw [h1, bs_s]
  repeat rw [gd_t (by decide)]
  rw [h2, bp_s, if_pos rfl]
  exact p1_stop _ xs _ rfl
theorem c_1668 (xs : Nat → Int32) : fL_b1668 6 xs (fL_l18 6 xs 1) sig0 0 = some 1 := by
  obtain ⟨r, σ1, h1, h2⟩ := q_cored 
  unfold fL_b1668
  repeat rw [gd_t (by decide)]
  rw [h1, bs_s]
  repeat rw [gd_t (by decide)]
  rw [h2, bp_s, if_pos rfl]
  exact p1_stop _ xs _ rfl
theorem c_1681 (xs : Nat → Int32) : fL_b1681 6 xs (fL_l18 6 xs 1) sig0 0 = some 1 := by
  obtain ⟨r, h1, h2⟩ := q_likely (xs ((0 : Int32) + (1 : Int32)).toNatClampNeg) (xs ((0 : Int32) + (2 : Int32)).toNatClampNeg)
  unfold fL_b1681
  repeat rw [gd_t (by decide)]
  rw [h1, bp_s]
  repeat rw [gd_t (by decide)]
  rw [h2, bp_s, if_pos rfl]
  exact p1_stop _ xs _ rfl
theorem c_1714 (xs : Nat → Int32) : fL_b1714 6 xs (fL_l18 6 xs 1) sig0 0 = some 1 := by
  obtain ⟨r, h1, h2⟩ := q_ask 
  unfold fL_b1714
  repeat rw [gd_t (by decide)]
  rw [h1, bp_s]
  repeat rw [gd_t (by decide)]
  rw [h2, bp_s, if_pos rfl]
  exact p1_stop _ xs _ rfl
theorem c_1727 (xs : Nat → Int32) : fL_b1727 6 xs (fL_l18 6 xs 1) sig0 0 = some 1 := by
  obtain ⟨r, h1, h2⟩ := q_leaves 
  unfold fL_b1727
  repeat rw [gd_t (by decide)]
  rw [h1, bp_s]
  repeat rw [gd_t (by decide)]
  rw [h2, bp_s, if_pos rfl]
  exact p1_stop _ xs _ rfl
theorem c_1740 (xs : Nat → Int32) : fL_b1740 6 xs (fL_l18 6 xs 1) sig0 0 = some 1 := by
  obtain ⟨r, h1, h2⟩ := q_unlike 
  unfold fL_b1740
  repeat rw [gd_t (by decide)]
  rw [h1, bp_s]
  repeat rw [gd_t (by decide)]
  rw [h2, bp_s, if_pos rfl]
  exact p1_stop _ xs _ rfl
theorem c_1753 (xs : Nat → Int32) : fL_b1753 6 xs (fL_l18 6 xs 1) sig0 0 = some 1 := by
  obtain ⟨r, σ1, h1, h2⟩ := q_falls (xs ((0 : Int32) + (1 : Int32)).toNatClampNeg)
  unfold fL_b1753
  repeat rw [gd_t (by decide)]
  rw [h1, bs_s]
  repeat rw [gd_t (by decide)]
  rw [h2, bp_s, if_pos rfl]
  exact p1_stop _ xs _ rfl
theorem c_1776 (xs : Nat → Int32) : fL_b1776 6 xs (fL_l18 6 xs 1) sig0 0 = some 1 := by
  obtain ⟨r, σ1, h1, h2⟩ := q_spare (xs ((0 : Int32) + (1 : Int32)).toNatClampNeg)
  unfold fL_b1776
  repeat rw [gd_t (by decide)]
  rw [h1, bs_s]
  repeat rw [gd_t (by decide)]
  rw [h2, bp_s, if_pos rfl]
  exact p1_stop _ xs _ rfl
theorem c_1799 (xs : Nat → Int32) : fL_b1799 6 xs (fL_l18 6 xs 1) sig0 0 = some 1 := by
  obtain ⟨r, σ1, h1, h2⟩ := q_spared (xs ((0 : Int32) + (1 : Int32)).toNatClampNeg)
  unfold fL_b1799
  repeat rw [gd_t (by decide)]
  rw [h1, bs_s]
  repeat rw [gd_t (by decide)]
  rw [h2, bp_s, if_pos rfl]
  exact p1_stop _ xs _ rfl
theorem c_1822 (xs : Nat → Int32) : fL_b1822 6 xs (fL_l18 6 xs 1) sig0 0 = some 1 := by
  obtain ⟨r, σ1, σ2, h1, h2⟩ := q_salt (xs ((0 : Int32) + (1 : Int32)).toNatClampNeg) (xs ((0 : Int32) + (2 : Int32)).toNatClampNeg)
  unfold fL_b1822
  repeat rw [gd_t (by decide)]
  rw [h1, bs_s]
  repeat rw [gd_t (by decide)]
  rw [h2, bs_s, if_pos rfl]
  exact p1_stop _ xs _ rfl
theorem c_1855 (xs : Nat → Int32) : fL_b1855 6 xs (fL_l18 6 xs 1) sig0 0 = some 1 := by
  obtain ⟨r, σ1, h1, h2⟩ := q_ate (xs ((0 : Int32) + (1 : Int32)).toNatClampNeg)
  unfold fL_b1855
  repeat rw [gd_t (by decide)]
  rw [h1, bs_s]
  repeat rw [gd_t (by decide)]
  rw [h2, bp_s, if_pos rfl]
  exact p1_stop _ xs _ rfl
theorem c_1878 (xs : Nat → Int32) : fL_b1878 6 xs (fL_l18 6 xs 1) sig0 0 = some 1 := by
  obtain ⟨r, σ1, h1, h2⟩ := q_borrowed (xs ((0 : Int32) + (1 : Int32)).toNatClampNeg) (xs ((0 : Int32) + (2 : Int32)).toNatClampNeg)
  unfold fL_b1878
  repeat rw [gd_t (by decide)]
  rw [h1, bs_s]
  repeat rw [gd_t (by decide)]
  rw [h2, bp_s, if_pos rfl]
  exact p1_stop _ xs _ rfl
theorem c_1911 (xs : Nat → Int32) : fL_b1911 6 xs (fL_l18 6 xs 1) sig0 0 = some 1 := by
  obtain ⟨r, σ1, h1, h2⟩ := q_lent (xs ((0 : Int32) + (1 : Int32)).toNatClampNeg) (xs ((0 : Int32) + (2 : Int32)).toNatClampNeg)
  unfold fL_b1911
  repeat rw [gd_t (by decide)]
  rw [h1, bs_s]
  repeat rw [gd_t (by decide)]
  rw [h2, bp_s, if_pos rfl]
  exact p1_stop _ xs _ rfl
theorem c_1944 (xs : Nat → Int32) : fL_b1944 6 xs (fL_l18 6 xs 1) sig0 0 = some 1 := by
  obtain ⟨r, σ1, σ2, h1, h2⟩ := q_adds (xs ((0 : Int32) + (1 : Int32)).toNatClampNeg) (xs ((0 : Int32) + (2 : Int32)).toNatClampNeg)
  unfold fL_b1944
  repeat rw [gd_t (by decide)]
  rw [h1, bs_s]
  repeat rw [gd_t (by decide)]
  rw [h2, bs_s, if_pos rfl]
  exact p1_stop _ xs _ rfl
theorem c_1977 (xs : Nat → Int32) : fL_b1977 6 xs (fL_l18 6 xs 1) sig0 0 = some 1 := by
  obtain ⟨r, σ1, σ2, h1, h2⟩ := q_drops 
  unfold fL_b1977
  repeat rw [gd_t (by decide)]
  rw [h1, bs_s]
  repeat rw [gd_t (by decide)]
  rw [h2, bs_s, if_pos rfl]
  exact p1_stop _ xs _ rfl
theorem c_1990 (xs : Nat → Int32) : fL_b1990 6 xs (fL_l18 6 xs 1) sig0 0 = some 1 := by
  obtain ⟨r, σ1, σ2, h1, h2⟩ := q_teach (xs ((0 : Int32) + (1 : Int32)).toNatClampNeg) (xs ((0 : Int32) + (2 : Int32)).toNatClampNeg) (xs ((0 : Int32) + (3 : Int32)).toNatClampNeg)
  unfold fL_b1990
  repeat rw [gd_t (by decide)]
  rw [h1, bs_s]
  repeat rw [gd_t (by decide)]
  rw [h2, bs_s, if_pos rfl]
  exact p1_stop _ xs _ rfl
theorem c_2033 (xs : Nat → Int32) : fL_b2033 6 xs (fL_l18 6 xs 1) sig0 0 = some 1 := by
  obtain ⟨r, h1, h2⟩ := q_drawn (xs ((0 : Int32) + (1 : Int32)).toNatClampNeg)
  unfold fL_b2033
  repeat rw [gd_t (by decide)]
  rw [h1, bp_s]
  repeat rw [gd_t (by decide)]
  rw [h2, bp_s, if_pos rfl]
  exact p1_stop _ xs _ rfl
theorem c_2056 (xs : Nat → Int32) : fL_b2056 6 xs (fL_l18 6 xs 1) sig0 0 = some 1 := by
  obtain ⟨r, σ1, σ2, h1, h2⟩ := q_feast (xs ((0 : Int32) + (1 : Int32)).toNatClampNeg) (xs ((0 : Int32) + (2 : Int32)).toNatClampNeg)
  unfold fL_b2056
  repeat rw [gd_t (by decide)]
  rw [h1, bs_s]
  repeat rw [gd_t (by decide)]
  rw [h2, bs_s, if_pos rfl]
  exact p1_stop _ xs _ rfl
theorem c_2089 (xs : Nat → Int32) : fL_b2089 6 xs (fL_l18 6 xs 1) sig0 0 = some 1 := by
  obtain ⟨r, σ1, σ2, h1, h2⟩ := q_mean (xs ((0 : Int32) + (1 : Int32)).toNatClampNeg) (xs ((0 : Int32) + (2 : Int32)).toNatClampNeg) (xs ((0 : Int32) + (3 : Int32)).toNatClampNeg) (xs ((0 : Int32) + (4 : Int32)).toNatClampNeg)
  unfold fL_b2089
  repeat rw [gd_t (by decide)]
  rw [h1, bs_s]
  repeat rw [gd_t (by decide)]
  rw [h2, bs_s, if_pos rfl]
  exact p1_stop _ xs _ rfl
theorem c_2142 (xs : Nat → Int32) : fL_b2142 6 xs (fL_l18 6 xs 1) sig0 0 = some 1 := by
  obtain ⟨r, h1, h2⟩ := q_count (xs ((0 : Int32) + (1 : Int32)).toNatClampNeg)
  unfold fL_b2142
  repeat rw [gd_t (by decide)]
  rw [h1, bp_s]
  repeat rw [gd_t (by decide)]
  rw [h2, bp_s, if_pos rfl]
  exact p1_stop _ xs _ rfl
theorem c_2165 (xs : Nat → Int32) : fL_b2165 6 xs (fL_l18 6 xs 1) sig0 0 = some 1 := by
  obtain ⟨r, σ1, σ2, h1, h2⟩ := q_image (xs ((0 : Int32) + (1 : Int32)).toNatClampNeg)
  unfold fL_b2165
  repeat rw [gd_t (by decide)]
  rw [h1, bs_s]
  repeat rw [gd_t (by decide)]
  rw [h2, bs_s, if_pos rfl]
  exact p1_stop _ xs _ rfl
theorem c_2188 (xs : Nat → Int32) : fL_b2188 6 xs (fL_l18 6 xs 1) sig0 0 = some 1 := by
  obtain ⟨r, σ1, σ2, h1, h2⟩ := q_back (xs ((0 : Int32) + (1 : Int32)).toNatClampNeg)
  unfold fL_b2188
  repeat rw [gd_t (by decide)]
  rw [h1, bs_s]
  repeat rw [gd_t (by decide)]
  rw [h2, bs_s, if_pos rfl]
  exact p1_stop _ xs _ rfl
theorem c_2211 (xs : Nat → Int32) : fL_b2211 6 xs (fL_l18 6 xs 1) sig0 0 = some 1 := by
  obtain ⟨r, σ1, σ2, h1, h2⟩ := q_row (xs ((0 : Int32) + (1 : Int32)).toNatClampNeg) (xs ((0 : Int32) + (2 : Int32)).toNatClampNeg) (xs ((0 : Int32) + (3 : Int32)).toNatClampNeg)
  unfold fL_b2211
  repeat rw [gd_t (by decide)]
  rw [h1, bs_s]
  repeat rw [gd_t (by decide)]
  rw [h2, bs_s, if_pos rfl]
  exact p1_stop _ xs _ rfl
theorem c_2254 (xs : Nat → Int32) : fL_b2254 6 xs (fL_l18 6 xs 1) sig0 0 = some 1 := by
  obtain ⟨r, σ1, σ2, h1, h2⟩ := q_write (xs ((0 : Int32) + (1 : Int32)).toNatClampNeg) (xs ((0 : Int32) + (2 : Int32)).toNatClampNeg) ((((xs ((0 : Int32) + (3 : Int32)).toNatClampNeg).toInt64) <<< ((32 : Int32).toInt64 &&& 63)) ||| (((xs ((0 : Int32) + (4 : Int32)).toNatClampNeg).toInt64) &&& (4294967295 : Int64)))
  unfold fL_b2254
  repeat rw [gd_t (by decide)]
  rw [h1, bs_s]
  repeat rw [gd_t (by decide)]
  rw [h2, bs_s, if_pos rfl]
  exact p1_stop _ xs _ rfl
theorem c_2327 (xs : Nat → Int32) : fL_b2327 6 xs (fL_l18 6 xs 1) sig0 0 = some 1 := by
  obtain ⟨r, σ1, σ2, h1, h2⟩ := q_paste (xs ((0 : Int32) + (1 : Int32)).toNatClampNeg) (xs ((0 : Int32) + (2 : Int32)).toNatClampNeg) (xs ((0 : Int32) + (3 : Int32)).toNatClampNeg) (xs ((0 : Int32) + (4 : Int32)).toNatClampNeg) (xs ((0 : Int32) + (5 : Int32)).toNatClampNeg)
  unfold fL_b2327
  repeat rw [gd_t (by decide)]
  rw [h1, bs_s]
  repeat rw [gd_t (by decide)]
  rw [h2, bs_s, if_pos rfl]
  exact p1_stop _ xs _ rfl
set_option maxRecDepth 20000 in
set_option maxHeartbeats 4000000 in
theorem law_pure {L : Nat} {xs : Nat → Int32} (hL : L ≤ 6) : ∃ n, fL_l18 L xs n sig0 0 = some 1 := by
  by_cases h : L = 6
  · subst h
    refine ⟨2, ?_⟩
    show fL_B18 6 xs (fL_l18 6 xs 1) sig0 0 = some 1
    unfold fL_B18
    rw [if_neg (by decide), gd_t (by decide)]
    by_cases e0 : (xs (0 : Int32).toNatClampNeg &&& (127 : Int32)) = 0
    · rw [if_pos e0]; exact c_352 xs
    rw [if_neg e0]
    by_cases e1 : (xs (0 : Int32).toNatClampNeg &&& (127 : Int32)) = 1
    · rw [if_pos e1]; exact c_415 xs
    rw [if_neg e1]
    by_cases e2 : (xs (0 : Int32).toNatClampNeg &&& (127 : Int32)) = 2
    · rw [if_pos e2]; exact c_438 xs
    rw [if_neg e2]
    by_cases e3 : (xs (0 : Int32).toNatClampNeg &&& (127 : Int32)) = 3
    · rw [if_pos e3]; exact c_451 xs
    rw [if_neg e3]
    by_cases e4 : (xs (0 : Int32).toNatClampNeg &&& (127 : Int32)) = 4
    · rw [if_pos e4]; exact c_474 xs
    rw [if_neg e4]
    by_cases e5 : (xs (0 : Int32).toNatClampNeg &&& (127 : Int32)) = 5
    · rw [if_pos e5]; exact c_507 xs
    rw [if_neg e5]
    by_cases e6 : (xs (0 : Int32).toNatClampNeg &&& (127 : Int32)) = 6
    · rw [if_pos e6]; exact c_530 xs
    rw [if_neg e6]
    by_cases e7 : (xs (0 : Int32).toNatClampNeg &&& (127 : Int32)) = 7
    · rw [if_pos e7]; exact c_563 xs
    rw [if_neg e7]
    by_cases e8 : (xs (0 : Int32).toNatClampNeg &&& (127 : Int32)) = 8
    · rw [if_pos e8]; exact c_596 xs
    rw [if_neg e8]
    by_cases e9 : (xs (0 : Int32).toNatClampNeg &&& (127 : Int32)) = 9
    · rw [if_pos e9]; exact c_609 xs
    rw [if_neg e9]
    by_cases e10 : (xs (0 : Int32).toNatClampNeg &&& (127 : Int32)) = 10
    · rw [if_pos e10]; exact c_632 xs
    rw [if_neg e10]
    by_cases e11 : (xs (0 : Int32).toNatClampNeg &&& (127 : Int32)) = 11
    · rw [if_pos e11]; exact c_655 xs
    rw [if_neg e11]
    by_cases e12 : (xs (0 : Int32).toNatClampNeg &&& (127 : Int32)) = 12
    · rw [if_pos e12]; exact c_688 xs
    rw [if_neg e12]
    by_cases e13 : (xs (0 : Int32).toNatClampNeg &&& (127 : Int32)) = 13
    · rw [if_pos e13]; exact c_711 xs
    rw [if_neg e13]
    by_cases e14 : (xs (0 : Int32).toNatClampNeg &&& (127 : Int32)) = 14
    · rw [if_pos e14]; exact c_734 xs
    rw [if_neg e14]
    by_cases e15 : (xs (0 : Int32).toNatClampNeg &&& (127 : Int32)) = 15
    · rw [if_pos e15]; exact c_747 xs
    rw [if_neg e15]
    by_cases e16 : (xs (0 : Int32).toNatClampNeg &&& (127 : Int32)) = 16
    · rw [if_pos e16]; exact c_760 xs
    rw [if_neg e16]
    by_cases e17 : (xs (0 : Int32).toNatClampNeg &&& (127 : Int32)) = 17
    · rw [if_pos e17]; exact c_773 xs
    rw [if_neg e17]
    by_cases e18 : (xs (0 : Int32).toNatClampNeg &&& (127 : Int32)) = 18
    · rw [if_pos e18]; exact c_796 xs
    rw [if_neg e18]
    by_cases e19 : (xs (0 : Int32).toNatClampNeg &&& (127 : Int32)) = 19
    · rw [if_pos e19]; exact c_819 xs
    rw [if_neg e19]
    by_cases e20 : (xs (0 : Int32).toNatClampNeg &&& (127 : Int32)) = 20
    · rw [if_pos e20]; exact c_842 xs
    rw [if_neg e20]
    by_cases e21 : (xs (0 : Int32).toNatClampNeg &&& (127 : Int32)) = 21
    · rw [if_pos e21]; exact c_875 xs
    rw [if_neg e21]
    by_cases e22 : (xs (0 : Int32).toNatClampNeg &&& (127 : Int32)) = 22
    · rw [if_pos e22]; exact c_908 xs
    rw [if_neg e22]
    by_cases e23 : (xs (0 : Int32).toNatClampNeg &&& (127 : Int32)) = 23
    · rw [if_pos e23]; exact c_951 xs
    rw [if_neg e23]
    by_cases e24 : (xs (0 : Int32).toNatClampNeg &&& (127 : Int32)) = 24
    · rw [if_pos e24]; exact c_974 xs
    rw [if_neg e24]
    by_cases e25 : (xs (0 : Int32).toNatClampNeg &&& (127 : Int32)) = 25
    · rw [if_pos e25]; exact c_997 xs
    rw [if_neg e25]
    by_cases e26 : (xs (0 : Int32).toNatClampNeg &&& (127 : Int32)) = 26
    · rw [if_pos e26]; exact c_1030 xs
    rw [if_neg e26]
    by_cases e27 : (xs (0 : Int32).toNatClampNeg &&& (127 : Int32)) = 27
    · rw [if_pos e27]; exact c_1053 xs
    rw [if_neg e27]
    by_cases e28 : (xs (0 : Int32).toNatClampNeg &&& (127 : Int32)) = 28
    · rw [if_pos e28]; exact c_1076 xs
    rw [if_neg e28]
    by_cases e29 : (xs (0 : Int32).toNatClampNeg &&& (127 : Int32)) = 29
    · rw [if_pos e29]; exact c_1099 xs
    rw [if_neg e29]
    by_cases e30 : (xs (0 : Int32).toNatClampNeg &&& (127 : Int32)) = 30
    · rw [if_pos e30]; exact c_1122 xs
    rw [if_neg e30]
    by_cases e31 : (xs (0 : Int32).toNatClampNeg &&& (127 : Int32)) = 31
    · rw [if_pos e31]; exact c_1145 xs
    rw [if_neg e31]
    by_cases e32 : (xs (0 : Int32).toNatClampNeg &&& (127 : Int32)) = 32
    · rw [if_pos e32]; exact c_1168 xs
    rw [if_neg e32]
    by_cases e33 : (xs (0 : Int32).toNatClampNeg &&& (127 : Int32)) = 33
    · rw [if_pos e33]; exact c_1201 xs
    rw [if_neg e33]
    by_cases e34 : (xs (0 : Int32).toNatClampNeg &&& (127 : Int32)) = 34
    · rw [if_pos e34]; exact c_1224 xs
    rw [if_neg e34]
    by_cases e35 : (xs (0 : Int32).toNatClampNeg &&& (127 : Int32)) = 35
    · rw [if_pos e35]; exact c_1247 xs
    rw [if_neg e35]
    by_cases e36 : (xs (0 : Int32).toNatClampNeg &&& (127 : Int32)) = 36
    · rw [if_pos e36]; exact c_1270 xs
    rw [if_neg e36]
    by_cases e37 : (xs (0 : Int32).toNatClampNeg &&& (127 : Int32)) = 37
    · rw [if_pos e37]; exact c_1293 xs
    rw [if_neg e37]
    by_cases e38 : (xs (0 : Int32).toNatClampNeg &&& (127 : Int32)) = 38
    · rw [if_pos e38]; exact c_1316 xs
    rw [if_neg e38]
    by_cases e39 : (xs (0 : Int32).toNatClampNeg &&& (127 : Int32)) = 39
    · rw [if_pos e39]; exact c_1349 xs
    rw [if_neg e39]
    by_cases e40 : (xs (0 : Int32).toNatClampNeg &&& (127 : Int32)) = 40
    · rw [if_pos e40]; exact c_1372 xs
    rw [if_neg e40]
    by_cases e41 : (xs (0 : Int32).toNatClampNeg &&& (127 : Int32)) = 41
    · rw [if_pos e41]; exact c_1395 xs
    rw [if_neg e41]
    by_cases e42 : (xs (0 : Int32).toNatClampNeg &&& (127 : Int32)) = 42
    · rw [if_pos e42]; exact c_1428 xs
    rw [if_neg e42]
    by_cases e43 : (xs (0 : Int32).toNatClampNeg &&& (127 : Int32)) = 43
    · rw [if_pos e43]; exact c_1461 xs
    rw [if_neg e43]
    by_cases e44 : (xs (0 : Int32).toNatClampNeg &&& (127 : Int32)) = 44
    · rw [if_pos e44]; exact c_1494 xs
    rw [if_neg e44]
    by_cases e45 : (xs (0 : Int32).toNatClampNeg &&& (127 : Int32)) = 45
    · rw [if_pos e45]; exact c_1527 xs
    rw [if_neg e45]
    by_cases e46 : (xs (0 : Int32).toNatClampNeg &&& (127 : Int32)) = 46
    · rw [if_pos e46]; exact c_1560 xs
    rw [if_neg e46]
    by_cases e47 : (xs (0 : Int32).toNatClampNeg &&& (127 : Int32)) = 47
    · rw [if_pos e47]; exact c_1603 xs
    rw [if_neg e47]
    by_cases e48 : (xs (0 : Int32).toNatClampNeg &&& (127 : Int32)) = 48
    · rw [if_pos e48]; exact c_1616 xs
    rw [if_neg e48]
    by_cases e49 : (xs (0 : Int32).toNatClampNeg &&& (127 : Int32)) = 49
    · rw [if_pos e49]; exact c_1629 xs
    rw [if_neg e49]
    by_cases e50 : (xs (0 : Int32).toNatClampNeg &&& (127 : Int32)) = 50
    · rw [if_pos e50]; exact c_1642 xs
    rw [if_neg e50]
    by_cases e51 : (xs (0 : Int32).toNatClampNeg &&& (127 : Int32)) = 51
    · rw [if_pos e51]; exact c_1655 xs
    rw [if_neg e51]
    by_cases e52 : (xs (0 : Int32).toNatClampNeg &&& (127 : Int32)) = 52
    · rw [if_pos e52]; exact c_1668 xs
    rw [if_neg e52]
    by_cases e53 : (xs (0 : Int32).toNatClampNeg &&& (127 : Int32)) = 53
    · rw [if_pos e53]; exact c_1681 xs
    rw [if_neg e53]
    by_cases e54 : (xs (0 : Int32).toNatClampNeg &&& (127 : Int32)) = 54
    · rw [if_pos e54]; exact c_1714 xs
    rw [if_neg e54]
    by_cases e55 : (xs (0 : Int32).toNatClampNeg &&& (127 : Int32)) = 55
    · rw [if_pos e55]; exact c_1727 xs
    rw [if_neg e55]
    by_cases e56 : (xs (0 : Int32).toNatClampNeg &&& (127 : Int32)) = 56
    · rw [if_pos e56]; exact c_1740 xs
    rw [if_neg e56]
    by_cases e57 : (xs (0 : Int32).toNatClampNeg &&& (127 : Int32)) = 57
    · rw [if_pos e57]; exact c_1753 xs
    rw [if_neg e57]
    by_cases e58 : (xs (0 : Int32).toNatClampNeg &&& (127 : Int32)) = 58
    · rw [if_pos e58]; exact c_1776 xs
    rw [if_neg e58]
    by_cases e59 : (xs (0 : Int32).toNatClampNeg &&& (127 : Int32)) = 59
    · rw [if_pos e59]; exact c_1799 xs
    rw [if_neg e59]
    by_cases e60 : (xs (0 : Int32).toNatClampNeg &&& (127 : Int32)) = 60
    · rw [if_pos e60]; exact c_1822 xs
    rw [if_neg e60]
    by_cases e61 : (xs (0 : Int32).toNatClampNeg &&& (127 : Int32)) = 61
    · rw [if_pos e61]; exact c_1855 xs
    rw [if_neg e61]
    by_cases e62 : (xs (0 : Int32).toNatClampNeg &&& (127 : Int32)) = 62
    · rw [if_pos e62]; exact c_1878 xs
    rw [if_neg e62]
    by_cases e63 : (xs (0 : Int32).toNatClampNeg &&& (127 : Int32)) = 63
    · rw [if_pos e63]; exact c_1911 xs
    rw [if_neg e63]
    by_cases e64 : (xs (0 : Int32).toNatClampNeg &&& (127 : Int32)) = 64
    · rw [if_pos e64]; exact c_1944 xs
    rw [if_neg e64]
    by_cases e65 : (xs (0 : Int32).toNatClampNeg &&& (127 : Int32)) = 65
    · rw [if_pos e65]; exact c_1977 xs
    rw [if_neg e65]
    by_cases e66 : (xs (0 : Int32).toNatClampNeg &&& (127 : Int32)) = 66
    · rw [if_pos e66]; exact c_1990 xs
    rw [if_neg e66]
    by_cases e67 : (xs (0 : Int32).toNatClampNeg &&& (127 : Int32)) = 67
    · rw [if_pos e67]; exact c_2033 xs
    rw [if_neg e67]
    by_cases e68 : (xs (0 : Int32).toNatClampNeg &&& (127 : Int32)) = 68
    · rw [if_pos e68]; exact c_2056 xs
    rw [if_neg e68]
    by_cases e69 : (xs (0 : Int32).toNatClampNeg &&& (127 : Int32)) = 69
    · rw [if_pos e69]; exact c_2089 xs
    rw [if_neg e69]
    by_cases e70 : (xs (0 : Int32).toNatClampNeg &&& (127 : Int32)) = 70
    · rw [if_pos e70]; exact c_2142 xs
    rw [if_neg e70]
    by_cases e71 : (xs (0 : Int32).toNatClampNeg &&& (127 : Int32)) = 71
    · rw [if_pos e71]; exact c_2165 xs
    rw [if_neg e71]
    by_cases e72 : (xs (0 : Int32).toNatClampNeg &&& (127 : Int32)) = 72
    · rw [if_pos e72]; exact c_2188 xs
    rw [if_neg e72]
    by_cases e73 : (xs (0 : Int32).toNatClampNeg &&& (127 : Int32)) = 73
    · rw [if_pos e73]; exact c_2211 xs
    rw [if_neg e73]
    by_cases e74 : (xs (0 : Int32).toNatClampNeg &&& (127 : Int32)) = 74
    · rw [if_pos e74]; exact c_2254 xs
    rw [if_neg e74]
    by_cases e75 : (xs (0 : Int32).toNatClampNeg &&& (127 : Int32)) = 75
    · rw [if_pos e75]; exact c_2327 xs
    rw [if_neg e75]
    exact p1_stop _ xs _ rfl
  · refine ⟨1, ?_⟩
    show fL_B18 L xs (fL_l18 L xs 0) sig0 0 = some 1
    unfold fL_B18
    have : L = 0 ∨ L = 1 ∨ L = 2 ∨ L = 3 ∨ L = 4 ∨ L = 5 := by omega
    rw [if_pos (by rcases this with rfl | rfl | rfl | rfl | rfl | rfl <;> decide)]
