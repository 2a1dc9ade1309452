/-! all cases -/
theorem all_feed {G : GT} (n : Nat) : Kc_feed G 2047 0 216 269 J n := kc_feed (dc := 2046) (by decide) (fun h s bk dr a0 a1 a2 a3 a4 j => O_feed j)
theorem all_trim {G : GT} (n : Nat) : Kc_trim G 2047 0 216 269 J n := kc_trim (dc := 2046) (by decide) (fun h s bk dr a0 j => O_trim j)
theorem all_beansIn {G : GT} (n : Nat) : Kc_beansIn G 2047 0 216 269 J n := kc_beansIn (dc := 2046) (by decide) (fun h s bk dr a0 a1 j => O_beansIn j)
theorem all_beansOf {G : GT} (n : Nat) : Kc_beansOf G 2047 0 216 269 J n := kc_beansOf (dc := 2046) (by decide) (fun h s bk dr a0 j => O_beansOf j)
theorem all_turnout {G : GT} (n : Nat) : Kc_turnout G 2047 0 216 269 J n := kc_turnout (dc := 2046) (by decide) (fun h s bk dr a0 j => O_turnout j)
theorem all_seatsOf {G : GT} (n : Nat) : Kc_seatsOf G 2047 0 216 269 J n := kc_seatsOf (dc := 2046) (by decide) (fun h s bk dr a0 j => O_seatsOf j)
theorem all_leaderOf {G : GT} (n : Nat) : Kc_leaderOf G 2047 0 216 269 J n := kc_leaderOf (dc := 2046) (by decide) (fun h s bk dr a0 j => O_leaderOf j)
theorem all_areAllied {G : GT} (n : Nat) : Kc_areAllied G 2047 0 216 269 J n := kc_areAllied (dc := 2046) (by decide) (fun h s bk dr a0 a1 j => O_areAllied j)
theorem all_firstIn {G : GT} (n : Nat) : Kc_firstIn G 2047 0 216 269 J n := kc_firstIn (dc := 2046) (by decide) (fun h s bk dr a0 j => O_firstIn j)
theorem all_marginIn {G : GT} (n : Nat) : Kc_marginIn G 2047 0 216 269 J n := kc_marginIn (dc := 2046) (by decide) (fun h s bk dr a0 j => O_marginIn j)
theorem all_allianceBeans {G : GT} (n : Nat) : Kc_allianceBeans G 2047 0 216 269 J n := kc_allianceBeans (dc := 2046) (by decide) (fun h s bk dr a0 a1 j => O_allianceBeans j)
theorem all_seatsWon {G : GT} (n : Nat) : Kc_seatsWon G 2047 0 216 269 J n := kc_seatsWon (dc := 2046) (by decide) (fun h s bk dr a0 a1 j => O_seatsWon j)
theorem all_emptySeats {G : GT} (n : Nat) : Kc_emptySeats G 2047 0 216 269 J n := kc_emptySeats (dc := 2046) (by decide) (fun h s bk dr a0 j => O_emptySeats j)
theorem all_seatsInAll {G : GT} (n : Nat) : Kc_seatsInAll G 2047 0 216 269 J n := kc_seatsInAll (dc := 2046) (by decide) (fun h s bk dr a0 j => O_seatsInAll j)
theorem all_hasMajority {G : GT} (n : Nat) : Kc_hasMajority G 2047 0 216 269 J n := kc_hasMajority (dc := 2046) (by decide) (fun h s bk dr a0 j => O_hasMajority j)
theorem all_jarOfLid {G : GT} (n : Nat) : Kc_jarOfLid G 2047 0 216 269 J n := kc_jarOfLid (dc := 2046) (by decide) (fun h s bk dr a0 j => O_jarOfLid j)
theorem all_labelOfLid {G : GT} (n : Nat) : Kc_labelOfLid G 2047 0 216 269 J n := kc_labelOfLid (dc := 2046) (by decide) (fun h s bk dr a0 j => O_labelOfLid j)
theorem all_ruleOfLid {G : GT} (n : Nat) : Kc_ruleOfLid G 2047 0 216 269 J n := kc_ruleOfLid (dc := 2046) (by decide) (fun h s bk dr a0 j => O_ruleOfLid j)
theorem all_pour {G : GT} (n : Nat) : Kc_pour G 2047 0 216 269 J n := kc_pour (dc := 2046) (by decide) (fun h s bk dr a0 a1 a2 a3 j => O_pour j)
theorem all_shake {G : GT} (n : Nat) : Kc_shake G 2047 0 216 269 J n := kc_shake (dc := 2046) (by decide) (fun h s bk dr a0 j => O_shake j)
theorem all_putLid {G : GT} (n : Nat) : Kc_putLid G 2047 0 216 269 J n := kc_putLid (dc := 2046) (by decide) (fun h s bk dr a0 a1 j => O_putLid j)
theorem all_join {G : GT} (n : Nat) : Kc_join G 2047 0 216 269 J n := kc_join (dc := 2046) (by decide) (fun h s bk dr a0 a1 j => O_join j)
theorem all_leave {G : GT} (n : Nat) : Kc_leave G 2047 0 216 269 J n := kc_leave (dc := 2046) (by decide) (fun h s bk dr a0 j => O_leave j)
theorem all_pass {G : GT} (n : Nat) : Kc_pass G 2047 0 216 269 J n := kc_pass (dc := 2046) (by decide) (fun h s bk dr a0 j => O_pass j)
theorem all_seatsAfter {G : GT} (n : Nat) : Kc_seatsAfter G 2047 0 216 269 J n := sorry
theorem all_daysUntilMajority {G : GT} (n : Nat) : Kc_daysUntilMajority G 2047 0 216 269 J n := sorry
theorem all_beansToWin {G : GT} (n : Nat) : Kc_beansToWin G 2047 0 216 269 J n := kc_beansToWin (dc := 2046) (by decide) (fun h s bk dr a0 a1 j => O_beansToWin j)
theorem all_bestJarFor {G : GT} (n : Nat) : Kc_bestJarFor G 2047 0 216 269 J n := kc_bestJarFor (dc := 2046) (by decide) (fun h s bk dr a0 j => O_bestJarFor j)
theorem all_firstShaken {G : GT} (n : Nat) : Kc_firstShaken G 2047 0 216 269 J n := kc_firstShaken (dc := 2046) (by decide) (fun h s bk dr a0 j => O_firstShaken j)
theorem all_teach {G : GT} (n : Nat) : Kc_teach G 2047 0 216 269 J n := sorry
theorem all_errorAt {G : GT} (n : Nat) : Kc_errorAt G 2047 0 216 269 J n := kd_errorAt (fun h s bk dr j => D_errorAt j)
theorem all_labels {G : GT} (n : Nat) : Kc_labels G 2047 0 216 269 J n := kd_labels (fun h s bk dr j => D_labels j)
theorem all_jars {G : GT} (n : Nat) : Kc_jars G 2047 0 216 269 J n := kd_jars (fun h s bk dr j => D_jars j)
theorem all_lids {G : GT} (n : Nat) : Kc_lids G 2047 0 216 269 J n := kd_lids (fun h s bk dr j => D_lids j)
theorem all_days {G : GT} (n : Nat) : Kc_days G 2047 0 216 269 J n := kd_days (fun h s bk dr j => D_days j)
theorem all_alliances {G : GT} (n : Nat) : Kc_alliances G 2047 0 216 269 J n := kd_alliances (fun h s bk dr j => D_alliances j)
theorem all_leading {G : GT} (n : Nat) : Kc_leading G 2047 0 216 269 J n := kd_leading (fun h s bk dr j => D_leading j)
theorem all_meanMargin {G : GT} (n : Nat) : Kc_meanMargin G 2047 0 216 269 J n := kd_meanMargin (fun h s bk dr j => D_meanMargin j)
theorem all_digest {G : GT} (n : Nat) : Kc_digest G 2047 0 216 269 J n := sorry
theorem all_calls {G : GT} (n : Nat) : Kc G 2047 0 216 269 J n := ⟨fun h hj => by
    obtain ⟨s, bk, dr, j, h1, h2⟩ := hj
    exact ⟨s, bk, dr, j, by omega, by omega⟩, all_feed n, all_trim n, all_teach n, all_errorAt n, all_labels n, all_jars n, all_lids n, all_days n, all_alliances n, all_beansIn n, all_beansOf n, all_turnout n, all_seatsOf n, all_leaderOf n, all_areAllied n, all_firstIn n, all_marginIn n, all_allianceBeans n, all_seatsWon n, all_emptySeats n, all_seatsInAll n, all_leading n, all_hasMajority n, all_jarOfLid n, all_labelOfLid n, all_ruleOfLid n, all_pour n, all_shake n, all_putLid n, all_join n, all_leave n, all_pass n, all_seatsAfter n, all_daysUntilMajority n, all_beansToWin n, all_bestJarFor n, all_firstShaken n, all_meanMargin n, all_digest n⟩
