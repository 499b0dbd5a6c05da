theorem sim_set (x1 x2 : Int32) {hc hm : Hp} (hR : Rel hc hm) : F_X7_set x1 x2 hc (fun r h1 => F_X8_set x1 x2 hm (fun r2 h2 => r = r2 ∧ Rel h1 h2)) := by
  sorry
theorem sim_star (x1 : Int32) {hc hm : Hp} (hR : Rel hc hm) : F_X7_star x1 hc (fun r h1 => F_X8_star x1 hm (fun r2 h2 => r = r2 ∧ Rel h1 h2)) := by
  sorry
theorem sim_cloud (x1 : Int32) {hc hm : Hp} (hR : Rel hc hm) : F_X7_cloud x1 hc (fun r h1 => F_X8_cloud x1 hm (fun r2 h2 => r = r2 ∧ Rel h1 h2)) := by
  sorry
theorem sim_navigator (x1 x2 x3 : Int32) {hc hm : Hp} (hR : Rel hc hm) : F_X7_navigator x1 x2 x3 hc (fun r h1 => F_X8_navigator x1 x2 x3 hm (fun r2 h2 => r = r2 ∧ Rel h1 h2)) := by
  sorry
theorem sim_sleep (x1 : Int32) {hc hm : Hp} (hR : Rel hc hm) : F_X7_sleep x1 hc (fun r h1 => F_X8_sleep x1 hm (fun r2 h2 => r = r2 ∧ Rel h1 h2)) := by
  sorry
theorem sim_goal (x1 : Int32) {hc hm : Hp} (hR : Rel hc hm) : F_X7_goal x1 hc (fun r h1 => F_X8_goal x1 hm (fun r2 h2 => r = r2 ∧ Rel h1 h2)) := by
  sorry
theorem sim_sight (x1 x2 : Int32) {hc hm : Hp} (hR : Rel hc hm) : F_X7_sight x1 x2 hc (fun r h1 => F_X8_sight x1 x2 hm (fun r2 h2 => r = r2 ∧ Rel h1 h2)) := by
  sorry
theorem sim_agree {hc hm : Hp} (hR : Rel hc hm) : F_X7_agree hc (fun r h1 => F_X8_agree hm (fun r2 h2 => r = r2 ∧ Rel h1 h2)) := by
  sorry
theorem sim_sail (x1 : Int32) {hc hm : Hp} (hR : Rel hc hm) : F_X7_sail x1 hc (fun r h1 => F_X8_sail x1 hm (fun r2 h2 => r = r2 ∧ Rel h1 h2)) := by
  sorry
theorem sim_night {hc hm : Hp} (hR : Rel hc hm) : F_X7_night hc (fun r h1 => F_X8_night hm (fun r2 h2 => r = r2 ∧ Rel h1 h2)) := by
  sorry
theorem sim_of (x1 x2 : Int32) {hc hm : Hp} (hR : Rel hc hm) : F_X7_of x1 x2 hc (fun r h1 => F_X8_of x1 x2 hm (fun r2 h2 => r = r2 ∧ Rel h1 h2)) := by
  sorry
theorem sim_ofStar (x1 x2 : Int32) {hc hm : Hp} (hR : Rel hc hm) : F_X7_ofStar x1 x2 hc (fun r h1 => F_X8_ofStar x1 x2 hm (fun r2 h2 => r = r2 ∧ Rel h1 h2)) := by
  sorry
theorem sim_log (x1 x2 : Int32) {hc hm : Hp} (hR : Rel hc hm) : F_X7_log x1 x2 hc (fun r h1 => F_X8_log x1 x2 hm (fun r2 h2 => r = r2 ∧ Rel h1 h2)) := by
  sorry
theorem sim_count (x1 : Int32) {hc hm : Hp} (hR : Rel hc hm) : F_X7_count x1 hc (fun r h1 => F_X8_count x1 hm (fun r2 h2 => r = r2 ∧ Rel h1 h2)) := by
  sorry
theorem sim_why (x1 x2 : Int32) {hc hm : Hp} (hR : Rel hc hm) : F_X7_why x1 x2 hc (fun r h1 => F_X8_why x1 x2 hm (fun r2 h2 => r = r2 ∧ Rel h1 h2)) := by
  sorry
theorem sim_ifSighted (x1 x2 : Int32) {hc hm : Hp} (hR : Rel hc hm) : F_X7_ifSighted x1 x2 hc (fun r h1 => F_X8_ifSighted x1 x2 hm (fun r2 h2 => r = r2 ∧ Rel h1 h2)) := by
  sorry
theorem sim_median (x1 : Int32) {hc hm : Hp} (hR : Rel hc hm) : F_X7_median x1 hc (fun r h1 => F_X8_median x1 hm (fun r2 h2 => r = r2 ∧ Rel h1 h2)) := by
  sorry
theorem sim_bestStar {hc hm : Hp} (hR : Rel hc hm) : F_X7_bestStar hc (fun r h1 => F_X8_bestStar hm (fun r2 h2 => r = r2 ∧ Rel h1 h2)) := by
  sorry
theorem sim_nearest (x1 : Int32) {hc hm : Hp} (hR : Rel hc hm) : F_X7_nearest x1 hc (fun r h1 => F_X8_nearest x1 hm (fun r2 h2 => r = r2 ∧ Rel h1 h2)) := by
  sorry
theorem sim_arrivesIn (x1 : Int32) {hc hm : Hp} (hR : Rel hc hm) : F_X7_arrivesIn x1 hc (fun r h1 => F_X8_arrivesIn x1 hm (fun r2 h2 => r = r2 ∧ Rel h1 h2)) := by
  sorry
theorem sim_put (x : Int64) {hc hm : Hp} (hR : Rel hc hm) : F_X7_put x hc (fun r h1 => F_X8_put x hm (fun r2 h2 => r = r2 ∧ Rel h1 h2)) := by
  sorry
theorem sim_wipe {hc hm : Hp} (hR : Rel hc hm) : F_X7_wipe hc (fun r h1 => F_X8_wipe hm (fun r2 h2 => r = r2 ∧ Rel h1 h2)) := by
  sorry
theorem sim_fault {hc hm : Hp} (hR : Rel hc hm) : F_X7_fault hc (fun r h1 => F_X8_fault hm (fun r2 h2 => r = r2 ∧ Rel h1 h2)) := by
  sorry
theorem sim_carryOut {hc hm : Hp} (hR : Rel hc hm) : F_X7_carryOut hc (fun r h1 => F_X8_carryOut hm (fun r2 h2 => r = r2 ∧ Rel h1 h2)) := by
  sorry
theorem sim_undo {hc hm : Hp} (hR : Rel hc hm) : F_X7_undo hc (fun r h1 => F_X8_undo hm (fun r2 h2 => r = r2 ∧ Rel h1 h2)) := by
  sorry
theorem sim_save (x1 : Int32) {hc hm : Hp} (hR : Rel hc hm) : F_X7_save x1 hc (fun r h1 => F_X8_save x1 hm (fun r2 h2 => r = r2 ∧ Rel h1 h2)) := by
  sorry
theorem sim_restore (x1 : Int32) {hc hm : Hp} (hR : Rel hc hm) : F_X7_restore x1 hc (fun r h1 => F_X8_restore x1 hm (fun r2 h2 => r = r2 ∧ Rel h1 h2)) := by
  sorry
theorem rel_init : Rel cInit mInit := by
  sorry
