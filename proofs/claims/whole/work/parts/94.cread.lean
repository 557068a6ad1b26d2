/-! the whole text: what is told stays within its bounds -/
section
variable {tx : Nat → Nat} {ln p st v : Nat} {tn : Nat → Nat}
theorem ns_inv {q : Nat × Nat × Nat} {l : List (Nat × Nat × Nat)} {s p' : Nat} {tn' : Nat → Nat} (h : am_ns tx ln (q :: l) p st tn = (true, s, p', tn')) : am_nb tx ln p q.2.1 q.2.2 = true ∧ am_ns tx ln l (am_pn tx ln p) (am_sp tx ln p) (am_uf tn q.1 (am_vv tx ln p)) = (true, s, p', tn') := by
  cases hb : am_nb tx ln p q.2.1 q.2.2 with
  | true =>
    rw [ns_t hb] at h
    exact ⟨rfl, h⟩
  | false =>
    rw [ns_f hb] at h
    exact absurd (congrArg Prod.fst h) Bool.false_ne_true
theorem ns_nil {s p' : Nat} {tn' : Nat → Nat} (h : am_ns tx ln [] p st tn = (true, s, p', tn')) : p' = p ∧ tn' = tn := by
  cases h
  exact ⟨rfl, rfl⟩
theorem im_inv (h : (am_im tx ln v p st tn).1 = true) : am_fu v tn = false ∧ ∃ s p' tn', am_ns tx ln (am_ls v tn) p st tn = (true, s, p', tn') ∧ am_kk tx ln p' = 3 ∧ am_im tx ln v p st tn = (true, am_sp tx ln p', am_pn tx ln p', am_uf (am_fin2 v tn') 4 (tn 4 + 1)) := by
  cases hf : am_fu v tn with
  | true =>
    rw [im_full hf] at h
    exact absurd h Bool.false_ne_true
  | false =>
    cases hr : am_ns tx ln (am_ls v tn) p st tn with
    | mk b r =>
      obtain ⟨s, p', tn'⟩ := r
      cases b with
      | false =>
        rw [im_f hf hr] at h
        exact absurd h Bool.false_ne_true
      | true =>
        by_cases h3 : am_kk tx ln p' = 3
        · exact ⟨rfl, s, p', tn', rfl, h3, im_t hf hr h3⟩
        · rw [im_e hf hr h3] at h
          exact absurd h Bool.false_ne_true
def ar_ok2 (tn : Nat → Nat) (r : Bool × Nat × Nat × (Nat → Nat)) (p ln : Nat) : Prop := ar_told r.2.2.2 ∧ r.2.2.2 5 ≤ 3 ∧ r.2.2.2 4 = tn 4 + 1 ∧ p + 2 ≤ r.2.2.1 ∧ r.2.2.1 ≤ ln
set_option maxHeartbeats 4000000 in
theorem im_ok100 (hO : ar_told tn) (h5 : tn 5 ≤ 3) (h4 : tn 4 ≤ 100) (hp : p ≤ ln) (h : (am_im tx ln 100 p st tn).1 = true) : ar_ok2 tn (am_im tx ln 100 p st tn) p ln := by
  obtain ⟨hf, s, p', tn', hns, h3, hr⟩ := im_inv h
  have hf' : decide (tn 0 = 4) = false := hf
  rw [decide_eq_false_iff_not] at hf'
  rw [show am_ls 100 tn = [(6 + tn 0, 1, 40), (10 + tn 0, 0, 2), (14 + tn 0, 1, 60)] from rfl] at hns
  obtain ⟨n1, hns⟩ := ns_inv hns
  obtain ⟨n2, hns⟩ := ns_inv hns
  obtain ⟨n3, hns⟩ := ns_inv hns
  obtain ⟨rfl, rfl⟩ := ns_nil hns
  have w1 : am_kk tx ln p = 2 ∧ 1 ≤ (am_vv tx ln p) ∧ (am_vv tx ln p) ≤ 40 := nb_v n1
  have w2 : am_kk tx ln (am_pn tx ln p) = 2 ∧ 0 ≤ (am_vv tx ln (am_pn tx ln p)) ∧ (am_vv tx ln (am_pn tx ln p)) ≤ 2 := nb_v n2
  have w3 : am_kk tx ln (am_pn tx ln (am_pn tx ln p)) = 2 ∧ 1 ≤ (am_vv tx ln (am_pn tx ln (am_pn tx ln p))) ∧ (am_vv tx ln (am_pn tx ln (am_pn tx ln p))) ≤ 60 := nb_v n3
  have p1 := pn_le (tx := tx) hp
  have p2 := pn_le (tx := tx) p1.1
  have p3 := pn_le (tx := tx) p2.1
  have p4 := pn_le (tx := tx) p3.1
  have q1 := p1.2.2 (by omega)
  have q4 := p4.2.2 (by omega)
  rw [hr]
  obtain ⟨f, hfe⟩ : ∃ f, f = am_uf (am_fin2 100 (am_uf (am_uf (am_uf tn (6 + tn 0) (am_vv tx ln p)) (10 + tn 0) (am_vv tx ln (am_pn tx ln p))) (14 + tn 0) (am_vv tx ln (am_pn tx ln (am_pn tx ln p))))) 4 (tn 4 + 1) := ⟨_, rfl⟩
  have E : ∀ j, f j = if j = 4 then tn 4 + 1 else if j = 0 then tn 0 + 1 else if j = 14 + tn 0 then (am_vv tx ln (am_pn tx ln (am_pn tx ln p))) else if j = 10 + tn 0 then (am_vv tx ln (am_pn tx ln p)) else if j = 6 + tn 0 then (am_vv tx ln p) else tn j := by
    intro j
    have e0 : (am_uf (am_uf (am_uf tn (6 + tn 0) (am_vv tx ln p)) (10 + tn 0) (am_vv tx ln (am_pn tx ln p))) (14 + tn 0) (am_vv tx ln (am_pn tx ln (am_pn tx ln p)))) 0 = tn 0 := by rw [uf_n (by omega), uf_n (by omega), uf_n (by omega)]
    rw [hfe]
    show (if j = 4 then tn 4 + 1 else if j = 0 then (am_uf (am_uf (am_uf tn (6 + tn 0) (am_vv tx ln p)) (10 + tn 0) (am_vv tx ln (am_pn tx ln p))) (14 + tn 0) (am_vv tx ln (am_pn tx ln (am_pn tx ln p)))) 0 + 1 else _) = _
    rw [e0]
    rfl
  obtain ⟨o1, o2, ⟨o3, o3'⟩, o4, o5, o6, o7, o8, o9⟩ := hO
  have f0 : f 0 = tn 0 + 1 := by
    rw [E]; repeat' split
    all_goals omega
  have f1 : f 1 = tn 1 := by
    rw [E]; repeat' split
    all_goals omega
  rw [← hfe]
  refine ⟨⟨?_, ?_, ⟨?_, ?_⟩, ?_, fun e he => ?_, fun e he => ?_, fun c hc => ?_, fun c hc => ?_, ?_⟩, ?_, ?_, ?_, p4.1⟩
  · show f 0 ≤ 4
    omega
  · show f 1 ≤ 6
    omega
  · show 10 ≤ f 2
    rw [E]; repeat' split
    all_goals omega
  · show f 2 ≤ 99
    rw [E]; repeat' split
    all_goals omega
  · show f 3 ≤ 30
    rw [E]; repeat' split
    all_goals omega
  · have := o5 e he
    refine ⟨?_, ?_, ?_⟩
    · show f (6 + e) ≤ 40
      rw [E]; repeat' split
      all_goals omega
    · show f (10 + e) ≤ 2
      rw [E]; repeat' split
      all_goals omega
    · show f (14 + e) ≤ 60
      rw [E]; repeat' split
      all_goals omega
  · have he' : e < tn 0 + 1 := by rw [← f0]; exact he
    have h6 : e < tn 0 → 1 ≤ tn (6 + e) ∧ 1 ≤ tn (14 + e) := o6 e
    by_cases e9 : e < tn 0
    · have h7 := h6 e9
      refine ⟨?_, ?_⟩
      · show 1 ≤ f (6 + e)
        rw [E]; repeat' split
        all_goals omega
      · show 1 ≤ f (14 + e)
        rw [E]; repeat' split
        all_goals omega
    · refine ⟨?_, ?_⟩
      · show 1 ≤ f (6 + e)
        rw [E]; repeat' split
        all_goals omega
      · show 1 ≤ f (14 + e)
        rw [E]; repeat' split
        all_goals omega
  · have := o7 c hc
    refine ⟨?_, ?_, ?_, ?_⟩
    · show f (18 + c) ≤ 5
      rw [E]; repeat' split
      all_goals omega
    · show f (24 + c) ≤ 12
      rw [E]; repeat' split
      all_goals omega
    · show f (30 + c) ≤ 3
      rw [E]; repeat' split
      all_goals omega
    · show f (36 + c) ≤ 30
      rw [E]; repeat' split
      all_goals omega
  · have hc' : c < tn 1 := by rw [← f1]; exact hc
    have h8 : c < tn 1 → 1 ≤ tn (24 + c) ∧ 1 ≤ tn (36 + c) := o8 c
    by_cases c9 : c < tn 1
    · have h7 := h8 c9
      refine ⟨?_, ?_⟩
      · show 1 ≤ f (24 + c)
        rw [E]; repeat' split
        all_goals omega
      · show 1 ≤ f (36 + c)
        rw [E]; repeat' split
        all_goals omega
    · refine ⟨?_, ?_⟩
      · show 1 ≤ f (24 + c)
        rw [E]; repeat' split
        all_goals omega
      · show 1 ≤ f (36 + c)
        rw [E]; repeat' split
        all_goals omega
  · show f 4 ≤ 200
    rw [E]; repeat' split
    all_goals omega
  · show f 5 ≤ 3
    rw [E]; repeat' split
    all_goals omega
  · show f 4 = tn 4 + 1
    rw [E]; repeat' split
    all_goals omega
  · show p + 2 ≤ (am_pn tx ln (am_pn tx ln (am_pn tx ln (am_pn tx ln p))))
    omega
set_option maxHeartbeats 4000000 in
theorem im_ok99 (hO : ar_told tn) (h5 : tn 5 ≤ 3) (h4 : tn 4 ≤ 100) (hp : p ≤ ln) (h : (am_im tx ln 99 p st tn).1 = true) : ar_ok2 tn (am_im tx ln 99 p st tn) p ln := by
  obtain ⟨hf, s, p', tn', hns, h3, hr⟩ := im_inv h
  have hf' : decide (tn 1 = 6) = false := hf
  rw [decide_eq_false_iff_not] at hf'
  rw [show am_ls 99 tn = [(18 + tn 1, 0, 5), (24 + tn 1, 1, 12), (30 + tn 1, 0, 3), (36 + tn 1, 1, 30)] from rfl] at hns
  obtain ⟨n1, hns⟩ := ns_inv hns
  obtain ⟨n2, hns⟩ := ns_inv hns
  obtain ⟨n3, hns⟩ := ns_inv hns
  obtain ⟨n4, hns⟩ := ns_inv hns
  obtain ⟨rfl, rfl⟩ := ns_nil hns
  have w1 : am_kk tx ln p = 2 ∧ 0 ≤ (am_vv tx ln p) ∧ (am_vv tx ln p) ≤ 5 := nb_v n1
  have w2 : am_kk tx ln (am_pn tx ln p) = 2 ∧ 1 ≤ (am_vv tx ln (am_pn tx ln p)) ∧ (am_vv tx ln (am_pn tx ln p)) ≤ 12 := nb_v n2
  have w3 : am_kk tx ln (am_pn tx ln (am_pn tx ln p)) = 2 ∧ 0 ≤ (am_vv tx ln (am_pn tx ln (am_pn tx ln p))) ∧ (am_vv tx ln (am_pn tx ln (am_pn tx ln p))) ≤ 3 := nb_v n3
  have w4 : am_kk tx ln (am_pn tx ln (am_pn tx ln (am_pn tx ln p))) = 2 ∧ 1 ≤ (am_vv tx ln (am_pn tx ln (am_pn tx ln (am_pn tx ln p)))) ∧ (am_vv tx ln (am_pn tx ln (am_pn tx ln (am_pn tx ln p)))) ≤ 30 := nb_v n4
  have p1 := pn_le (tx := tx) hp
  have p2 := pn_le (tx := tx) p1.1
  have p3 := pn_le (tx := tx) p2.1
  have p4 := pn_le (tx := tx) p3.1
  have p5 := pn_le (tx := tx) p4.1
  have q1 := p1.2.2 (by omega)
  have q5 := p5.2.2 (by omega)
  rw [hr]
  obtain ⟨f, hfe⟩ : ∃ f, f = am_uf (am_fin2 99 (am_uf (am_uf (am_uf (am_uf tn (18 + tn 1) (am_vv tx ln p)) (24 + tn 1) (am_vv tx ln (am_pn tx ln p))) (30 + tn 1) (am_vv tx ln (am_pn tx ln (am_pn tx ln p)))) (36 + tn 1) (am_vv tx ln (am_pn tx ln (am_pn tx ln (am_pn tx ln p)))))) 4 (tn 4 + 1) := ⟨_, rfl⟩
  have E : ∀ j, f j = if j = 4 then tn 4 + 1 else if j = 1 then tn 1 + 1 else if j = 36 + tn 1 then (am_vv tx ln (am_pn tx ln (am_pn tx ln (am_pn tx ln p)))) else if j = 30 + tn 1 then (am_vv tx ln (am_pn tx ln (am_pn tx ln p))) else if j = 24 + tn 1 then (am_vv tx ln (am_pn tx ln p)) else if j = 18 + tn 1 then (am_vv tx ln p) else tn j := by
    intro j
    have e0 : (am_uf (am_uf (am_uf (am_uf tn (18 + tn 1) (am_vv tx ln p)) (24 + tn 1) (am_vv tx ln (am_pn tx ln p))) (30 + tn 1) (am_vv tx ln (am_pn tx ln (am_pn tx ln p)))) (36 + tn 1) (am_vv tx ln (am_pn tx ln (am_pn tx ln (am_pn tx ln p))))) 1 = tn 1 := by rw [uf_n (by omega), uf_n (by omega), uf_n (by omega), uf_n (by omega)]
    rw [hfe]
    show (if j = 4 then tn 4 + 1 else if j = 1 then (am_uf (am_uf (am_uf (am_uf tn (18 + tn 1) (am_vv tx ln p)) (24 + tn 1) (am_vv tx ln (am_pn tx ln p))) (30 + tn 1) (am_vv tx ln (am_pn tx ln (am_pn tx ln p)))) (36 + tn 1) (am_vv tx ln (am_pn tx ln (am_pn tx ln (am_pn tx ln p))))) 1 + 1 else _) = _
    rw [e0]
    rfl
  obtain ⟨o1, o2, ⟨o3, o3'⟩, o4, o5, o6, o7, o8, o9⟩ := hO
  have f0 : f 0 = tn 0 := by
    rw [E]; repeat' split
    all_goals omega
  have f1 : f 1 = tn 1 + 1 := by
    rw [E]; repeat' split
    all_goals omega
  rw [← hfe]
  refine ⟨⟨?_, ?_, ⟨?_, ?_⟩, ?_, fun e he => ?_, fun e he => ?_, fun c hc => ?_, fun c hc => ?_, ?_⟩, ?_, ?_, ?_, p5.1⟩
  · show f 0 ≤ 4
    omega
  · show f 1 ≤ 6
    omega
  · show 10 ≤ f 2
    rw [E]; repeat' split
    all_goals omega
  · show f 2 ≤ 99
    rw [E]; repeat' split
    all_goals omega
  · show f 3 ≤ 30
    rw [E]; repeat' split
    all_goals omega
  · have := o5 e he
    refine ⟨?_, ?_, ?_⟩
    · show f (6 + e) ≤ 40
      rw [E]; repeat' split
      all_goals omega
    · show f (10 + e) ≤ 2
      rw [E]; repeat' split
      all_goals omega
    · show f (14 + e) ≤ 60
      rw [E]; repeat' split
      all_goals omega
  · have he' : e < tn 0 := by rw [← f0]; exact he
    have h6 : e < tn 0 → 1 ≤ tn (6 + e) ∧ 1 ≤ tn (14 + e) := o6 e
    by_cases e9 : e < tn 0
    · have h7 := h6 e9
      refine ⟨?_, ?_⟩
      · show 1 ≤ f (6 + e)
        rw [E]; repeat' split
        all_goals omega
      · show 1 ≤ f (14 + e)
        rw [E]; repeat' split
        all_goals omega
    · refine ⟨?_, ?_⟩
      · show 1 ≤ f (6 + e)
        rw [E]; repeat' split
        all_goals omega
      · show 1 ≤ f (14 + e)
        rw [E]; repeat' split
        all_goals omega
  · have := o7 c hc
    refine ⟨?_, ?_, ?_, ?_⟩
    · show f (18 + c) ≤ 5
      rw [E]; repeat' split
      all_goals omega
    · show f (24 + c) ≤ 12
      rw [E]; repeat' split
      all_goals omega
    · show f (30 + c) ≤ 3
      rw [E]; repeat' split
      all_goals omega
    · show f (36 + c) ≤ 30
      rw [E]; repeat' split
      all_goals omega
  · have hc' : c < tn 1 + 1 := by rw [← f1]; exact hc
    have h8 : c < tn 1 → 1 ≤ tn (24 + c) ∧ 1 ≤ tn (36 + c) := o8 c
    by_cases c9 : c < tn 1
    · have h7 := h8 c9
      refine ⟨?_, ?_⟩
      · show 1 ≤ f (24 + c)
        rw [E]; repeat' split
        all_goals omega
      · show 1 ≤ f (36 + c)
        rw [E]; repeat' split
        all_goals omega
    · refine ⟨?_, ?_⟩
      · show 1 ≤ f (24 + c)
        rw [E]; repeat' split
        all_goals omega
      · show 1 ≤ f (36 + c)
        rw [E]; repeat' split
        all_goals omega
  · show f 4 ≤ 200
    rw [E]; repeat' split
    all_goals omega
  · show f 5 ≤ 3
    rw [E]; repeat' split
    all_goals omega
  · show f 4 = tn 4 + 1
    rw [E]; repeat' split
    all_goals omega
  · show p + 2 ≤ (am_pn tx ln (am_pn tx ln (am_pn tx ln (am_pn tx ln (am_pn tx ln p)))))
    omega
set_option maxHeartbeats 4000000 in
theorem im_ok116 (hO : ar_told tn) (h5 : tn 5 ≤ 3) (h4 : tn 4 ≤ 100) (hp : p ≤ ln) (h : (am_im tx ln 116 p st tn).1 = true) : ar_ok2 tn (am_im tx ln 116 p st tn) p ln := by
  obtain ⟨hf, s, p', tn', hns, h3, hr⟩ := im_inv h
  have hf' : decide (tn 5 % 2 = 1) = false := hf
  rw [decide_eq_false_iff_not] at hf'
  rw [show am_ls 116 tn = [(2, 10, 99)] from rfl] at hns
  obtain ⟨n1, hns⟩ := ns_inv hns
  obtain ⟨rfl, rfl⟩ := ns_nil hns
  have w1 : am_kk tx ln p = 2 ∧ 10 ≤ (am_vv tx ln p) ∧ (am_vv tx ln p) ≤ 99 := nb_v n1
  have p1 := pn_le (tx := tx) hp
  have p2 := pn_le (tx := tx) p1.1
  have q1 := p1.2.2 (by omega)
  have q2 := p2.2.2 (by omega)
  rw [hr]
  obtain ⟨f, hfe⟩ : ∃ f, f = am_uf (am_fin2 116 (am_uf tn (2) (am_vv tx ln p))) 4 (tn 4 + 1) := ⟨_, rfl⟩
  have E : ∀ j, f j = if j = 4 then tn 4 + 1 else if j = 5 then tn 5 ||| 1 else if j = 2 then (am_vv tx ln p) else tn j := by
    intro j
    have e0 : (am_uf tn (2) (am_vv tx ln p)) 5 = tn 5 := by rw [uf_n (by omega)]
    rw [hfe]
    show (if j = 4 then tn 4 + 1 else if j = 5 then (am_uf tn (2) (am_vv tx ln p)) 5 ||| 1 else _) = _
    rw [e0]
    rfl
  obtain ⟨o1, o2, ⟨o3, o3'⟩, o4, o5, o6, o7, o8, o9⟩ := hO
  have hor : tn 5 ||| 1 ≤ 3 := by
    rcases (show tn 5 = 0 ∨ tn 5 = 1 ∨ tn 5 = 2 ∨ tn 5 = 3 by omega) with h9 | h9 | h9 | h9 <;> rw [h9] <;> decide
  have f0 : f 0 = tn 0 := by
    rw [E]; repeat' split
    all_goals omega
  have f1 : f 1 = tn 1 := by
    rw [E]; repeat' split
    all_goals omega
  rw [← hfe]
  refine ⟨⟨?_, ?_, ⟨?_, ?_⟩, ?_, fun e he => ?_, fun e he => ?_, fun c hc => ?_, fun c hc => ?_, ?_⟩, ?_, ?_, ?_, p2.1⟩
  · show f 0 ≤ 4
    omega
  · show f 1 ≤ 6
    omega
  · show 10 ≤ f 2
    rw [E]; repeat' split
    all_goals omega
  · show f 2 ≤ 99
    rw [E]; repeat' split
    all_goals omega
  · show f 3 ≤ 30
    rw [E]; repeat' split
    all_goals omega
  · have := o5 e he
    refine ⟨?_, ?_, ?_⟩
    · show f (6 + e) ≤ 40
      rw [E]; repeat' split
      all_goals omega
    · show f (10 + e) ≤ 2
      rw [E]; repeat' split
      all_goals omega
    · show f (14 + e) ≤ 60
      rw [E]; repeat' split
      all_goals omega
  · have he' : e < tn 0 := by rw [← f0]; exact he
    have h6 : e < tn 0 → 1 ≤ tn (6 + e) ∧ 1 ≤ tn (14 + e) := o6 e
    by_cases e9 : e < tn 0
    · have h7 := h6 e9
      refine ⟨?_, ?_⟩
      · show 1 ≤ f (6 + e)
        rw [E]; repeat' split
        all_goals omega
      · show 1 ≤ f (14 + e)
        rw [E]; repeat' split
        all_goals omega
    · refine ⟨?_, ?_⟩
      · show 1 ≤ f (6 + e)
        rw [E]; repeat' split
        all_goals omega
      · show 1 ≤ f (14 + e)
        rw [E]; repeat' split
        all_goals omega
  · have := o7 c hc
    refine ⟨?_, ?_, ?_, ?_⟩
    · show f (18 + c) ≤ 5
      rw [E]; repeat' split
      all_goals omega
    · show f (24 + c) ≤ 12
      rw [E]; repeat' split
      all_goals omega
    · show f (30 + c) ≤ 3
      rw [E]; repeat' split
      all_goals omega
    · show f (36 + c) ≤ 30
      rw [E]; repeat' split
      all_goals omega
  · have hc' : c < tn 1 := by rw [← f1]; exact hc
    have h8 : c < tn 1 → 1 ≤ tn (24 + c) ∧ 1 ≤ tn (36 + c) := o8 c
    by_cases c9 : c < tn 1
    · have h7 := h8 c9
      refine ⟨?_, ?_⟩
      · show 1 ≤ f (24 + c)
        rw [E]; repeat' split
        all_goals omega
      · show 1 ≤ f (36 + c)
        rw [E]; repeat' split
        all_goals omega
    · refine ⟨?_, ?_⟩
      · show 1 ≤ f (24 + c)
        rw [E]; repeat' split
        all_goals omega
      · show 1 ≤ f (36 + c)
        rw [E]; repeat' split
        all_goals omega
  · show f 4 ≤ 200
    rw [E]; repeat' split
    all_goals omega
  · show f 5 ≤ 3
    rw [E]; repeat' split
    all_goals omega
  · show f 4 = tn 4 + 1
    rw [E]; repeat' split
    all_goals omega
  · show p + 2 ≤ (am_pn tx ln (am_pn tx ln p))
    omega
set_option maxHeartbeats 4000000 in
theorem im_ok107 (hO : ar_told tn) (h5 : tn 5 ≤ 3) (h4 : tn 4 ≤ 100) (hp : p ≤ ln) (h : (am_im tx ln 107 p st tn).1 = true) : ar_ok2 tn (am_im tx ln 107 p st tn) p ln := by
  obtain ⟨hf, s, p', tn', hns, h3, hr⟩ := im_inv h
  have hf' : decide (tn 5 / 2 % 2 = 1) = false := hf
  rw [decide_eq_false_iff_not] at hf'
  rw [show am_ls 107 tn = [(3, 0, 30)] from rfl] at hns
  obtain ⟨n1, hns⟩ := ns_inv hns
  obtain ⟨rfl, rfl⟩ := ns_nil hns
  have w1 : am_kk tx ln p = 2 ∧ 0 ≤ (am_vv tx ln p) ∧ (am_vv tx ln p) ≤ 30 := nb_v n1
  have p1 := pn_le (tx := tx) hp
  have p2 := pn_le (tx := tx) p1.1
  have q1 := p1.2.2 (by omega)
  have q2 := p2.2.2 (by omega)
  rw [hr]
  obtain ⟨f, hfe⟩ : ∃ f, f = am_uf (am_fin2 107 (am_uf tn (3) (am_vv tx ln p))) 4 (tn 4 + 1) := ⟨_, rfl⟩
  have E : ∀ j, f j = if j = 4 then tn 4 + 1 else if j = 5 then tn 5 ||| 2 else if j = 3 then (am_vv tx ln p) else tn j := by
    intro j
    have e0 : (am_uf tn (3) (am_vv tx ln p)) 5 = tn 5 := by rw [uf_n (by omega)]
    rw [hfe]
    show (if j = 4 then tn 4 + 1 else if j = 5 then (am_uf tn (3) (am_vv tx ln p)) 5 ||| 2 else _) = _
    rw [e0]
    rfl
  obtain ⟨o1, o2, ⟨o3, o3'⟩, o4, o5, o6, o7, o8, o9⟩ := hO
  have hor : tn 5 ||| 2 ≤ 3 := by
    rcases (show tn 5 = 0 ∨ tn 5 = 1 ∨ tn 5 = 2 ∨ tn 5 = 3 by omega) with h9 | h9 | h9 | h9 <;> rw [h9] <;> decide
  have f0 : f 0 = tn 0 := by
    rw [E]; repeat' split
    all_goals omega
  have f1 : f 1 = tn 1 := by
    rw [E]; repeat' split
    all_goals omega
  rw [← hfe]
  refine ⟨⟨?_, ?_, ⟨?_, ?_⟩, ?_, fun e he => ?_, fun e he => ?_, fun c hc => ?_, fun c hc => ?_, ?_⟩, ?_, ?_, ?_, p2.1⟩
  · show f 0 ≤ 4
    omega
  · show f 1 ≤ 6
    omega
  · show 10 ≤ f 2
    rw [E]; repeat' split
    all_goals omega
  · show f 2 ≤ 99
    rw [E]; repeat' split
    all_goals omega
  · show f 3 ≤ 30
    rw [E]; repeat' split
    all_goals omega
  · have := o5 e he
    refine ⟨?_, ?_, ?_⟩
    · show f (6 + e) ≤ 40
      rw [E]; repeat' split
      all_goals omega
    · show f (10 + e) ≤ 2
      rw [E]; repeat' split
      all_goals omega
    · show f (14 + e) ≤ 60
      rw [E]; repeat' split
      all_goals omega
  · have he' : e < tn 0 := by rw [← f0]; exact he
    have h6 : e < tn 0 → 1 ≤ tn (6 + e) ∧ 1 ≤ tn (14 + e) := o6 e
    by_cases e9 : e < tn 0
    · have h7 := h6 e9
      refine ⟨?_, ?_⟩
      · show 1 ≤ f (6 + e)
        rw [E]; repeat' split
        all_goals omega
      · show 1 ≤ f (14 + e)
        rw [E]; repeat' split
        all_goals omega
    · refine ⟨?_, ?_⟩
      · show 1 ≤ f (6 + e)
        rw [E]; repeat' split
        all_goals omega
      · show 1 ≤ f (14 + e)
        rw [E]; repeat' split
        all_goals omega
  · have := o7 c hc
    refine ⟨?_, ?_, ?_, ?_⟩
    · show f (18 + c) ≤ 5
      rw [E]; repeat' split
      all_goals omega
    · show f (24 + c) ≤ 12
      rw [E]; repeat' split
      all_goals omega
    · show f (30 + c) ≤ 3
      rw [E]; repeat' split
      all_goals omega
    · show f (36 + c) ≤ 30
      rw [E]; repeat' split
      all_goals omega
  · have hc' : c < tn 1 := by rw [← f1]; exact hc
    have h8 : c < tn 1 → 1 ≤ tn (24 + c) ∧ 1 ≤ tn (36 + c) := o8 c
    by_cases c9 : c < tn 1
    · have h7 := h8 c9
      refine ⟨?_, ?_⟩
      · show 1 ≤ f (24 + c)
        rw [E]; repeat' split
        all_goals omega
      · show 1 ≤ f (36 + c)
        rw [E]; repeat' split
        all_goals omega
    · refine ⟨?_, ?_⟩
      · show 1 ≤ f (24 + c)
        rw [E]; repeat' split
        all_goals omega
      · show 1 ≤ f (36 + c)
        rw [E]; repeat' split
        all_goals omega
  · show f 4 ≤ 200
    rw [E]; repeat' split
    all_goals omega
  · show f 5 ≤ 3
    rw [E]; repeat' split
    all_goals omega
  · show f 4 = tn 4 + 1
    rw [E]; repeat' split
    all_goals omega
  · show p + 2 ≤ (am_pn tx ln (am_pn tx ln p))
    omega
theorem im_ok (hv : v = 100 ∨ v = 99 ∨ v = 116 ∨ v = 107) (hO : ar_told tn) (h5 : tn 5 ≤ 3) (h4 : tn 4 ≤ 100) (hp : p ≤ ln) (h : (am_im tx ln v p st tn).1 = true) : ar_ok2 tn (am_im tx ln v p st tn) p ln := by
  rcases hv with rfl | rfl | rfl | rfl
  · exact im_ok100 hO h5 h4 hp h
  · exact im_ok99 hO h5 h4 hp h
  · exact im_ok116 hO h5 h4 hp h
  · exact im_ok107 hO h5 h4 hp h
/-- the whole text keeps within the bounds -/
theorem pa_ok (hx : ∀ q, tx q ≤ 255) (hln : ln ≤ 120) : ∀ (r p : Nat) (tn : Nat → Nat), ln + 1 ≤ p + r → p ≤ ln → ar_told tn → tn 5 ≤ 3 → 2 * tn 4 ≤ p → (am_pa tx ln r p tn).1 = true → ar_told (am_pa tx ln r p tn).2.2
  | 0, p, tn, h1, h2, _, _, _, _ => absurd h1 (by omega)
  | r + 1, p, tn, h1, h2, h3, h4, h5, h6 => by
    simp only [am_pa] at h6 ⊢
    by_cases k0 : am_kk tx ln p = 0
    · rw [if_pos k0]; exact h3
    · rw [if_neg k0] at h6 ⊢
      by_cases k1 : am_kk tx ln p = 1
      · rw [if_pos k1] at h6 ⊢
        have hv := ((tk_kd (ln := ln) (p := p) hx).2.1 k1).2
        have hp := pn_le (tx := tx) h2
        have hp1 := hp.2.2 k0
        by_cases k2 : (am_im tx ln (am_vv tx ln p) (am_pn tx ln p) (am_sp tx ln p) tn).1 = true
        · rw [if_pos k2] at h6 ⊢
          obtain ⟨g1, g2, g3, g4, g5⟩ := im_ok hv h3 h4 (by omega) hp.1 k2
          exact pa_ok hx hln r _ _ (by omega) g5 g1 g2 (by rw [g3]; omega) h6
        · rw [if_neg k2] at h6
          exact absurd h6 Bool.false_ne_true
      · rw [if_neg k1] at h6
        exact absurd h6 Bool.false_ne_true
end
