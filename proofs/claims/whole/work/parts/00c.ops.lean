/-! the law's calls as owed statements -/
def f_X8_text (σ : Mem) : Option (Int32 × Mem) :=
  if 6 ≤ σ 1 1 then some (-4, σ) else match f_X2_read σ with
  | none => none
  | some (r, σ1) => if σ1 1 1 = σ 1 1 then (if 0 ≤ r then some (-100 - r, ms σ1 9 1 0) else
      if (1 ≤ σ1 1 1 ∧ σ1 1 1 < 6) ∧ codeOK (ms σ1 9 1 0) 0 ∧ codeOK (ms σ1 9 1 0) 1 ∧ codeOK (ms σ1 9 1 0) 2 then some (σ1 1 1, tmem (ms σ1 9 1 0)) else none) else none
def OP_count (RR : Mem → Mem → Prop) : Prop := ∀ (σ τ : Mem) (v1 : Int32), RR σ τ → ∃ (r : Int32), f_X8_count σ v1 = r ∧ f_X9_count τ v1 = r ∧ RR σ τ
def OP_feed (RR : Mem → Mem → Prop) : Prop := ∀ (σ τ : Mem) (v1 v2 v3 v4 v5 v6 : Int32), RR σ τ → ∃ (r : Int32) (σ' : Mem) (τ' : Mem), f_X8_feed σ v1 v2 v3 v4 v5 v6 = some (r, σ') ∧ f_X9_feed τ v1 v2 v3 v4 v5 v6 = some (r, τ') ∧ RR σ' τ' ∧ σ' 1 1 = σ 1 1
def OP_text (RR : Mem → Mem → Prop) : Prop := ∀ (σ τ : Mem), RR σ τ → ∃ (r : Int32) (σ' : Mem) (τ' : Mem), f_X8_text σ = some (r, σ') ∧ f_X9_text τ = some (r, τ') ∧ RR σ' τ'
def OP_force (RR : Mem → Mem → Prop) : Prop := ∀ (σ τ : Mem) (v1 : Int32), RR σ τ → ∃ (r : Int32) (σ' : Mem) (τ' : Mem), f_X8_force σ v1 = (r, σ') ∧ f_X9_force τ v1 = (r, τ') ∧ RR σ' τ' ∧ σ' 1 1 = σ 1 1
def OP_asks (RR : Mem → Mem → Prop) : Prop := ∀ (σ τ : Mem) (v1 v2 v3 : Int32), RR σ τ → ∃ (r : Int32) (σ' : Mem) (τ' : Mem), f_X8_asks σ v1 v2 v3 = some (r, σ') ∧ f_X9_asks τ v1 v2 v3 = some (r, τ') ∧ RR σ' τ' ∧ σ' 1 1 = σ 1 1
def OP_man (RR : Mem → Mem → Prop) : Prop := ∀ (σ τ : Mem) (v1 v2 v3 : Int32), RR σ τ → ∃ (r : Int32) (σ' : Mem) (τ' : Mem), f_X8_man σ v1 v2 v3 = some (r, σ') ∧ f_X9_man τ v1 v2 v3 = some (r, τ') ∧ RR σ' τ' ∧ σ' 1 1 = σ 1 1
def OP_set (RR : Mem → Mem → Prop) : Prop := ∀ (σ τ : Mem) (v1 v2 v3 : Int32), RR σ τ → ∃ (r : Int32) (σ' : Mem) (τ' : Mem), f_X8_set σ v1 v2 v3 = some (r, σ') ∧ f_X9_set τ v1 v2 v3 = some (r, τ') ∧ RR σ' τ' ∧ σ' 1 1 = σ 1 1
def OP_told (RR : Mem → Mem → Prop) : Prop := ∀ (σ τ : Mem) (v1 v2 : Int32), RR σ τ → ∃ (r : Int32), f_X8_told σ v1 v2 = some r ∧ f_X9_told τ v1 v2 = some r ∧ RR σ τ
def OP_vow (RR : Mem → Mem → Prop) : Prop := ∀ (σ τ : Mem) (v1 v2 v3 : Int32), RR σ τ → ∃ (r : Int32) (σ' : Mem) (τ' : Mem), f_X8_vow σ v1 v2 v3 = some (r, σ') ∧ f_X9_vow τ v1 v2 v3 = some (r, τ') ∧ RR σ' τ' ∧ σ' 1 1 = σ 1 1
def OP_bond (RR : Mem → Mem → Prop) : Prop := ∀ (σ τ : Mem) (v1 v2 : Int32), RR σ τ → ∃ (r : Int32), f_X8_bond σ v1 v2 = some r ∧ f_X9_bond τ v1 v2 = some r ∧ RR σ τ
def OP_plaits (RR : Mem → Mem → Prop) : Prop := ∀ (σ τ : Mem) (v1 v2 : Int32), RR σ τ → ∃ (r : Int32) (σ' : Mem) (τ' : Mem), f_X8_plaits σ v1 v2 = some (r, σ') ∧ f_X9_plaits τ v1 v2 = some (r, τ') ∧ RR σ' τ' ∧ σ' 1 1 = σ 1 1
def OP_pass (RR : Mem → Mem → Prop) : Prop := ∀ (σ τ : Mem) (v1 v2 : Int32), RR σ τ → ∃ (r : Int32) (σ' : Mem) (τ' : Mem), f_X8_pass σ v1 v2 = some (r, σ') ∧ f_X9_pass τ v1 v2 = some (r, τ') ∧ RR σ' τ' ∧ σ' 1 1 = σ 1 1
def OP_live (RR : Mem → Mem → Prop) : Prop := ∀ (σ τ : Mem), RR σ τ → ∃ (r : Int32) (σ' : Mem) (τ' : Mem), f_X8_live σ = some (r, σ') ∧ f_X9_live τ = some (r, τ') ∧ RR σ' τ' ∧ σ' 1 1 = σ 1 1
def OP_run (RR : Mem → Mem → Prop) : Prop := ∀ (σ τ : Mem) (v1 v2 : Int32), RR σ τ → ∃ (r : Int32) (σ' : Mem) (τ' : Mem), f_X8_run σ v1 v2 = some (r, σ') ∧ f_X9_run τ v1 v2 = some (r, τ') ∧ RR σ' τ' ∧ σ' 1 1 = σ 1 1
def OP_ripe (RR : Mem → Mem → Prop) : Prop := ∀ (σ τ : Mem) (v1 v2 : Int32), RR σ τ → ∃ (r : Int32) (σ' : Mem) (τ' : Mem), f_X8_ripe σ v1 v2 = some (r, σ') ∧ f_X9_ripe τ v1 v2 = some (r, τ') ∧ RR σ' τ' ∧ σ' 1 1 = σ 1 1
def OP_soonest (RR : Mem → Mem → Prop) : Prop := ∀ (σ τ : Mem) (v1 v2 : Int32), RR σ τ → ∃ (r : Int32) (σ' : Mem) (τ' : Mem), f_X8_soonest σ v1 v2 = some (r, σ') ∧ f_X9_soonest τ v1 v2 = some (r, τ') ∧ RR σ' τ' ∧ σ' 1 1 = σ 1 1
def OP_take (RR : Mem → Mem → Prop) : Prop := ∀ (σ τ : Mem) (v1 v2 v3 : Int32), RR σ τ → ∃ (r : Int32) (σ' : Mem) (τ' : Mem), f_X8_take σ v1 v2 v3 = some (r, σ') ∧ f_X9_take τ v1 v2 v3 = some (r, τ') ∧ RR σ' τ' ∧ σ' 1 1 = σ 1 1
def OP_ring (RR : Mem → Mem → Prop) : Prop := ∀ (σ τ : Mem) (v1 : Int32), RR σ τ → ∃ (r : Int32) (τ' : Mem), f_X8_ring σ v1 = some r ∧ f_X9_ring τ v1 = some (r, τ') ∧ RR σ τ'
def OP_clear (RR : Mem → Mem → Prop) : Prop := ∀ (σ τ : Mem), RR σ τ → ∃ (r : Int32) (σ' : Mem) (τ' : Mem), f_X8_clear σ = some (r, σ') ∧ f_X9_clear τ = some (r, τ') ∧ RR σ' τ' ∧ σ' 1 1 = σ 1 1
def OP_net (RR : Mem → Mem → Prop) : Prop := ∀ (σ τ : Mem) (v1 : Int32), RR σ τ → ∃ (r : Int32), f_X8_net σ v1 = some r ∧ f_X9_net τ v1 = some r ∧ RR σ τ
def OP_falls (RR : Mem → Mem → Prop) : Prop := ∀ (σ τ : Mem) (v1 v2 : Int32), RR σ τ → ∃ (r : Int32) (τ' : Mem), f_X8_falls σ v1 v2 = some r ∧ f_X9_falls τ v1 v2 = some (r, τ') ∧ RR σ τ'
def OP_pillar (RR : Mem → Mem → Prop) : Prop := ∀ (σ τ : Mem) (v1 : Int32), RR σ τ → ∃ (r : Int32) (τ' : Mem), f_X8_pillar σ v1 = some r ∧ f_X9_pillar τ v1 = some (r, τ') ∧ RR σ τ'
def OP_day (RR : Mem → Mem → Prop) : Prop := ∀ (σ τ : Mem) (v1 v2 : Int32), RR σ τ → ∃ (r : Int32) (σ' : Mem) (τ' : Mem), f_X8_day σ v1 v2 = some (r, σ') ∧ f_X9_day τ v1 v2 = some (r, τ') ∧ RR σ' τ' ∧ σ' 1 1 = σ 1 1
def OP_judge (RR : Mem → Mem → Prop) : Prop := ∀ (σ τ : Mem) (v1 v2 : Int32), RR σ τ → ∃ (r : Int32) (σ' : Mem) (τ' : Mem), f_X8_judge σ v1 v2 = some (r, σ') ∧ f_X9_judge τ v1 v2 = some (r, τ') ∧ RR σ' τ' ∧ σ' 1 1 = σ 1 1
def OP_kinds (RR : Mem → Mem → Prop) : Prop := ∀ (σ τ : Mem) (v1 v2 v3 : Int32), RR σ τ → ∃ (r : Int32) (σ' : Mem) (τ' : Mem), f_X8_kinds σ v1 v2 v3 = some (r, σ') ∧ f_X9_kinds τ v1 v2 v3 = some (r, τ') ∧ RR σ' τ' ∧ σ' 1 1 = σ 1 1
def OP_since (RR : Mem → Mem → Prop) : Prop := ∀ (σ τ : Mem) (v1 v2 : Int32), RR σ τ → ∃ (r : Int64) (σ' : Mem) (τ' : Mem), f_X8_since σ v1 v2 = some (r, σ') ∧ f_X9_since τ v1 v2 = some (r, τ') ∧ RR σ' τ' ∧ σ' 1 1 = σ 1 1
def OP_laws (RR : Mem → Mem → Prop) : Prop := ∀ (σ τ : Mem) (v1 v2 : Int32), RR σ τ → ∃ (r : Int32) (σ' : Mem) (τ' : Mem), f_X8_laws σ v1 v2 = some (r, σ') ∧ f_X9_laws τ v1 v2 = some (r, τ') ∧ RR σ' τ' ∧ σ' 1 1 = σ 1 1
def OP_whose (RR : Mem → Mem → Prop) : Prop := ∀ (σ τ : Mem) (v1 : Int32), RR σ τ → ∃ (r : Int32) (σ' : Mem) (τ' : Mem), f_X8_whose σ v1 = some (r, σ') ∧ f_X9_whose τ v1 = some (r, τ') ∧ RR σ' τ' ∧ σ' 1 1 = σ 1 1
def OP_film (RR : Mem → Mem → Prop) : Prop := ∀ (σ τ : Mem) (v1 v2 v3 : Int32), RR σ τ → ∃ (r : Int32) (σ' : Mem) (τ' : Mem), f_X8_film σ v1 v2 v3 = some (r, σ') ∧ f_X9_film τ v1 v2 v3 = some (r, τ') ∧ RR σ' τ' ∧ σ' 1 1 = σ 1 1
def OP_drawn (RR : Mem → Mem → Prop) : Prop := ∀ (σ τ : Mem) (v1 v2 v3 : Int32), RR σ τ → ∃ (r : Int32) (σ' : Mem) (τ' : Mem), f_X8_drawn σ v1 v2 v3 = some (r, σ') ∧ f_X9_drawn τ v1 v2 v3 = some (r, τ') ∧ RR σ' τ' ∧ σ' 1 1 = σ 1 1
def OP_odds (RR : Mem → Mem → Prop) : Prop := ∀ (σ τ : Mem) (v1 v2 v3 v4 : Int32), RR σ τ → ∃ (r : Int64) (σ' : Mem) (τ' : Mem), f_X8_odds σ v1 v2 v3 v4 = some (r, σ') ∧ f_X9_odds τ v1 v2 v3 v4 = some (r, τ') ∧ RR σ' τ' ∧ σ' 1 1 = σ 1 1
def OP_image (RR : Mem → Mem → Prop) : Prop := ∀ (σ τ : Mem), RR σ τ → ∃ (r : Int32) (σ' : Mem) (τ' : Mem), f_X8_image σ = some (r, σ') ∧ f_X9_image τ = some (r, τ') ∧ RR σ' τ' ∧ σ' 1 1 = σ 1 1
def OP_back (RR : Mem → Mem → Prop) : Prop := ∀ (σ τ : Mem), RR σ τ → ∃ (r : Int32) (σ' : Mem) (τ' : Mem), f_X8_back σ = some (r, σ') ∧ f_X9_back τ = some (r, τ') ∧ RR σ' τ' ∧ σ' 1 1 = σ 1 1
def OP_sheet (RR : Mem → Mem → Prop) : Prop := ∀ (σ τ : Mem) (v1 v2 v3 : Int32), RR σ τ → ∃ (r : Int32) (σ' : Mem) (τ' : Mem), f_X8_sheet σ v1 v2 v3 = some (r, σ') ∧ f_X9_sheet τ v1 v2 v3 = some (r, τ') ∧ RR σ' τ' ∧ σ' 1 1 = σ 1 1
def OP_cell (RR : Mem → Mem → Prop) : Prop := ∀ (σ τ : Mem) (v1 v2 v3 : Int32), RR σ τ → ∃ (r : Int32) (σ' : Mem) (τ' : Mem), f_X8_cell σ v1 v2 v3 = some (r, σ') ∧ f_X9_cell τ v1 v2 v3 = some (r, τ') ∧ RR σ' τ' ∧ σ' 1 1 = σ 1 1
def OP_copy (RR : Mem → Mem → Prop) : Prop := ∀ (σ τ : Mem) (v1 v2 v3 v4 v5 : Int32), RR σ τ → ∃ (r : Int32) (σ' : Mem) (τ' : Mem), f_X8_copy σ v1 v2 v3 v4 v5 = some (r, σ') ∧ f_X9_copy τ v1 v2 v3 v4 v5 = some (r, τ') ∧ RR σ' τ' ∧ σ' 1 1 = σ 1 1
def OP_menBy (RR : Mem → Mem → Prop) : Prop := ∀ (σ τ : Mem) (v1 v2 v3 v4 : Int32), RR σ τ → ∃ (r : Int32) (σ' : Mem) (τ' : Mem), f_X8_menBy σ v1 v2 v3 v4 = some (r, σ') ∧ f_X9_menBy τ v1 v2 v3 v4 = some (r, τ') ∧ RR σ' τ' ∧ σ' 1 1 = σ 1 1
def OP_taken (RR : Mem → Mem → Prop) : Prop := ∀ (σ τ : Mem) (v1 v2 : Int32), RR σ τ → ∃ (r : Int32), f_X8_taken σ v1 v2 = some r ∧ f_X9_taken τ v1 v2 = some r ∧ RR σ τ
def OPS (RR : Mem → Mem → Prop) : Prop := OP_count RR ∧ OP_feed RR ∧ OP_text RR ∧ OP_force RR ∧ OP_asks RR ∧ OP_man RR ∧ OP_set RR ∧ OP_told RR ∧ OP_vow RR ∧ OP_bond RR ∧ OP_plaits RR ∧ OP_pass RR ∧ OP_live RR ∧ OP_run RR ∧ OP_ripe RR ∧ OP_soonest RR ∧ OP_take RR ∧ OP_ring RR ∧ OP_clear RR ∧ OP_net RR ∧ OP_falls RR ∧ OP_pillar RR ∧ OP_day RR ∧ OP_judge RR ∧ OP_kinds RR ∧ OP_since RR ∧ OP_laws RR ∧ OP_whose RR ∧ OP_film RR ∧ OP_drawn RR ∧ OP_odds RR ∧ OP_image RR ∧ OP_back RR ∧ OP_sheet RR ∧ OP_cell RR ∧ OP_copy RR ∧ OP_menBy RR ∧ OP_taken RR
