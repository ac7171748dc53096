/-! ===== what a getter sees behind a setter ===== -/
theorem gs_c_codes_codes (σ : SC) (v : (Nat → Int32)) : c_codes (sc_codes σ v) = v := rfl
theorem ss_c_codes (σ : SC) (v w : (Nat → Int32)) : sc_codes (sc_codes σ v) w = sc_codes σ w := rfl
theorem gs_c_codes_plen (σ : SC) (v : Int32) : c_codes (sc_plen σ v) = c_codes σ := rfl
theorem gs_c_codes_kinds (σ : SC) (v : (Nat → Int32)) : c_codes (sc_kinds σ v) = c_codes σ := rfl
theorem gs_c_codes_people (σ : SC) (v : Int32) : c_codes (sc_people σ v) = c_codes σ := rfl
theorem gs_c_codes_river (σ : SC) (v : Int32) : c_codes (sc_river σ v) = c_codes σ := rfl
theorem gs_c_codes_nexts (σ : SC) (v : (Nat → Int32)) : c_codes (sc_nexts σ v) = c_codes σ := rfl
theorem gs_c_codes_lsts (σ : SC) (v : (Nat → Int32)) : c_codes (sc_lsts σ v) = c_codes σ := rfl
theorem gs_c_codes_heard (σ : SC) (v : (Nat → Int32)) : c_codes (sc_heard σ v) = c_codes σ := rfl
theorem gs_c_codes_last (σ : SC) (v : (Nat → Int32)) : c_codes (sc_last σ v) = c_codes σ := rfl
theorem gs_c_codes_denied (σ : SC) (v : (Nat → Int32)) : c_codes (sc_denied σ v) = c_codes σ := rfl
theorem gs_c_codes_whom (σ : SC) (v : (Nat → Int32)) : c_codes (sc_whom σ v) = c_codes σ := rfl
theorem gs_c_codes_wday (σ : SC) (v : (Nat → Int32)) : c_codes (sc_wday σ v) = c_codes σ := rfl
theorem gs_c_codes_asked (σ : SC) (v : Int32) : c_codes (sc_asked σ v) = c_codes σ := rfl
theorem gs_c_codes_days (σ : SC) (v : Int32) : c_codes (sc_days σ v) = c_codes σ := rfl
theorem gs_c_codes_changes (σ : SC) (v : Int32) : c_codes (sc_changes σ v) = c_codes σ := rfl
theorem gs_c_codes_knexts (σ : SC) (v : (Nat → Int32)) : c_codes (sc_knexts σ v) = c_codes σ := rfl
theorem gs_c_codes_klsts (σ : SC) (v : (Nat → Int32)) : c_codes (sc_klsts σ v) = c_codes σ := rfl
theorem gs_c_codes_kheard (σ : SC) (v : (Nat → Int32)) : c_codes (sc_kheard σ v) = c_codes σ := rfl
theorem gs_c_codes_klast (σ : SC) (v : (Nat → Int32)) : c_codes (sc_klast σ v) = c_codes σ := rfl
theorem gs_c_codes_kdenied (σ : SC) (v : (Nat → Int32)) : c_codes (sc_kdenied σ v) = c_codes σ := rfl
theorem gs_c_codes_kwhom (σ : SC) (v : (Nat → Int32)) : c_codes (sc_kwhom σ v) = c_codes σ := rfl
theorem gs_c_codes_kwday (σ : SC) (v : (Nat → Int32)) : c_codes (sc_kwday σ v) = c_codes σ := rfl
theorem gs_c_codes_kasked (σ : SC) (v : Int32) : c_codes (sc_kasked σ v) = c_codes σ := rfl
theorem gs_c_codes_kdays (σ : SC) (v : Int32) : c_codes (sc_kdays σ v) = c_codes σ := rfl
theorem gs_c_codes_kchanges (σ : SC) (v : Int32) : c_codes (sc_kchanges σ v) = c_codes σ := rfl
theorem gs_c_codes_left (σ : SC) (v : (Nat → Int32)) : c_codes (sc_left σ v) = c_codes σ := rfl
theorem gs_c_codes_hasImage (σ : SC) (v : Int32) : c_codes (sc_hasImage σ v) = c_codes σ := rfl
theorem gs_c_codes_readings (σ : SC) (v : Int32) : c_codes (sc_readings σ v) = c_codes σ := rfl
theorem gs_c_plen_plen (σ : SC) (v : Int32) : c_plen (sc_plen σ v) = v := rfl
theorem ss_c_plen (σ : SC) (v w : Int32) : sc_plen (sc_plen σ v) w = sc_plen σ w := rfl
theorem gs_c_plen_codes (σ : SC) (v : (Nat → Int32)) : c_plen (sc_codes σ v) = c_plen σ := rfl
theorem gs_c_plen_kinds (σ : SC) (v : (Nat → Int32)) : c_plen (sc_kinds σ v) = c_plen σ := rfl
theorem gs_c_plen_people (σ : SC) (v : Int32) : c_plen (sc_people σ v) = c_plen σ := rfl
theorem gs_c_plen_river (σ : SC) (v : Int32) : c_plen (sc_river σ v) = c_plen σ := rfl
theorem gs_c_plen_nexts (σ : SC) (v : (Nat → Int32)) : c_plen (sc_nexts σ v) = c_plen σ := rfl
theorem gs_c_plen_lsts (σ : SC) (v : (Nat → Int32)) : c_plen (sc_lsts σ v) = c_plen σ := rfl
theorem gs_c_plen_heard (σ : SC) (v : (Nat → Int32)) : c_plen (sc_heard σ v) = c_plen σ := rfl
theorem gs_c_plen_last (σ : SC) (v : (Nat → Int32)) : c_plen (sc_last σ v) = c_plen σ := rfl
theorem gs_c_plen_denied (σ : SC) (v : (Nat → Int32)) : c_plen (sc_denied σ v) = c_plen σ := rfl
theorem gs_c_plen_whom (σ : SC) (v : (Nat → Int32)) : c_plen (sc_whom σ v) = c_plen σ := rfl
theorem gs_c_plen_wday (σ : SC) (v : (Nat → Int32)) : c_plen (sc_wday σ v) = c_plen σ := rfl
theorem gs_c_plen_asked (σ : SC) (v : Int32) : c_plen (sc_asked σ v) = c_plen σ := rfl
theorem gs_c_plen_days (σ : SC) (v : Int32) : c_plen (sc_days σ v) = c_plen σ := rfl
theorem gs_c_plen_changes (σ : SC) (v : Int32) : c_plen (sc_changes σ v) = c_plen σ := rfl
theorem gs_c_plen_knexts (σ : SC) (v : (Nat → Int32)) : c_plen (sc_knexts σ v) = c_plen σ := rfl
theorem gs_c_plen_klsts (σ : SC) (v : (Nat → Int32)) : c_plen (sc_klsts σ v) = c_plen σ := rfl
theorem gs_c_plen_kheard (σ : SC) (v : (Nat → Int32)) : c_plen (sc_kheard σ v) = c_plen σ := rfl
theorem gs_c_plen_klast (σ : SC) (v : (Nat → Int32)) : c_plen (sc_klast σ v) = c_plen σ := rfl
theorem gs_c_plen_kdenied (σ : SC) (v : (Nat → Int32)) : c_plen (sc_kdenied σ v) = c_plen σ := rfl
theorem gs_c_plen_kwhom (σ : SC) (v : (Nat → Int32)) : c_plen (sc_kwhom σ v) = c_plen σ := rfl
theorem gs_c_plen_kwday (σ : SC) (v : (Nat → Int32)) : c_plen (sc_kwday σ v) = c_plen σ := rfl
theorem gs_c_plen_kasked (σ : SC) (v : Int32) : c_plen (sc_kasked σ v) = c_plen σ := rfl
theorem gs_c_plen_kdays (σ : SC) (v : Int32) : c_plen (sc_kdays σ v) = c_plen σ := rfl
theorem gs_c_plen_kchanges (σ : SC) (v : Int32) : c_plen (sc_kchanges σ v) = c_plen σ := rfl
theorem gs_c_plen_left (σ : SC) (v : (Nat → Int32)) : c_plen (sc_left σ v) = c_plen σ := rfl
theorem gs_c_plen_hasImage (σ : SC) (v : Int32) : c_plen (sc_hasImage σ v) = c_plen σ := rfl
theorem gs_c_plen_readings (σ : SC) (v : Int32) : c_plen (sc_readings σ v) = c_plen σ := rfl
theorem gs_c_kinds_kinds (σ : SC) (v : (Nat → Int32)) : c_kinds (sc_kinds σ v) = v := rfl
theorem ss_c_kinds (σ : SC) (v w : (Nat → Int32)) : sc_kinds (sc_kinds σ v) w = sc_kinds σ w := rfl
theorem gs_c_kinds_codes (σ : SC) (v : (Nat → Int32)) : c_kinds (sc_codes σ v) = c_kinds σ := rfl
theorem gs_c_kinds_plen (σ : SC) (v : Int32) : c_kinds (sc_plen σ v) = c_kinds σ := rfl
theorem gs_c_kinds_people (σ : SC) (v : Int32) : c_kinds (sc_people σ v) = c_kinds σ := rfl
theorem gs_c_kinds_river (σ : SC) (v : Int32) : c_kinds (sc_river σ v) = c_kinds σ := rfl
theorem gs_c_kinds_nexts (σ : SC) (v : (Nat → Int32)) : c_kinds (sc_nexts σ v) = c_kinds σ := rfl
theorem gs_c_kinds_lsts (σ : SC) (v : (Nat → Int32)) : c_kinds (sc_lsts σ v) = c_kinds σ := rfl
theorem gs_c_kinds_heard (σ : SC) (v : (Nat → Int32)) : c_kinds (sc_heard σ v) = c_kinds σ := rfl
theorem gs_c_kinds_last (σ : SC) (v : (Nat → Int32)) : c_kinds (sc_last σ v) = c_kinds σ := rfl
theorem gs_c_kinds_denied (σ : SC) (v : (Nat → Int32)) : c_kinds (sc_denied σ v) = c_kinds σ := rfl
theorem gs_c_kinds_whom (σ : SC) (v : (Nat → Int32)) : c_kinds (sc_whom σ v) = c_kinds σ := rfl
theorem gs_c_kinds_wday (σ : SC) (v : (Nat → Int32)) : c_kinds (sc_wday σ v) = c_kinds σ := rfl
theorem gs_c_kinds_asked (σ : SC) (v : Int32) : c_kinds (sc_asked σ v) = c_kinds σ := rfl
theorem gs_c_kinds_days (σ : SC) (v : Int32) : c_kinds (sc_days σ v) = c_kinds σ := rfl
theorem gs_c_kinds_changes (σ : SC) (v : Int32) : c_kinds (sc_changes σ v) = c_kinds σ := rfl
theorem gs_c_kinds_knexts (σ : SC) (v : (Nat → Int32)) : c_kinds (sc_knexts σ v) = c_kinds σ := rfl
theorem gs_c_kinds_klsts (σ : SC) (v : (Nat → Int32)) : c_kinds (sc_klsts σ v) = c_kinds σ := rfl
theorem gs_c_kinds_kheard (σ : SC) (v : (Nat → Int32)) : c_kinds (sc_kheard σ v) = c_kinds σ := rfl
theorem gs_c_kinds_klast (σ : SC) (v : (Nat → Int32)) : c_kinds (sc_klast σ v) = c_kinds σ := rfl
theorem gs_c_kinds_kdenied (σ : SC) (v : (Nat → Int32)) : c_kinds (sc_kdenied σ v) = c_kinds σ := rfl
theorem gs_c_kinds_kwhom (σ : SC) (v : (Nat → Int32)) : c_kinds (sc_kwhom σ v) = c_kinds σ := rfl
theorem gs_c_kinds_kwday (σ : SC) (v : (Nat → Int32)) : c_kinds (sc_kwday σ v) = c_kinds σ := rfl
theorem gs_c_kinds_kasked (σ : SC) (v : Int32) : c_kinds (sc_kasked σ v) = c_kinds σ := rfl
theorem gs_c_kinds_kdays (σ : SC) (v : Int32) : c_kinds (sc_kdays σ v) = c_kinds σ := rfl
theorem gs_c_kinds_kchanges (σ : SC) (v : Int32) : c_kinds (sc_kchanges σ v) = c_kinds σ := rfl
theorem gs_c_kinds_left (σ : SC) (v : (Nat → Int32)) : c_kinds (sc_left σ v) = c_kinds σ := rfl
theorem gs_c_kinds_hasImage (σ : SC) (v : Int32) : c_kinds (sc_hasImage σ v) = c_kinds σ := rfl
theorem gs_c_kinds_readings (σ : SC) (v : Int32) : c_kinds (sc_readings σ v) = c_kinds σ := rfl
theorem gs_c_people_people (σ : SC) (v : Int32) : c_people (sc_people σ v) = v := rfl
theorem ss_c_people (σ : SC) (v w : Int32) : sc_people (sc_people σ v) w = sc_people σ w := rfl
theorem gs_c_people_codes (σ : SC) (v : (Nat → Int32)) : c_people (sc_codes σ v) = c_people σ := rfl
theorem gs_c_people_plen (σ : SC) (v : Int32) : c_people (sc_plen σ v) = c_people σ := rfl
theorem gs_c_people_kinds (σ : SC) (v : (Nat → Int32)) : c_people (sc_kinds σ v) = c_people σ := rfl
theorem gs_c_people_river (σ : SC) (v : Int32) : c_people (sc_river σ v) = c_people σ := rfl
theorem gs_c_people_nexts (σ : SC) (v : (Nat → Int32)) : c_people (sc_nexts σ v) = c_people σ := rfl
theorem gs_c_people_lsts (σ : SC) (v : (Nat → Int32)) : c_people (sc_lsts σ v) = c_people σ := rfl
theorem gs_c_people_heard (σ : SC) (v : (Nat → Int32)) : c_people (sc_heard σ v) = c_people σ := rfl
theorem gs_c_people_last (σ : SC) (v : (Nat → Int32)) : c_people (sc_last σ v) = c_people σ := rfl
theorem gs_c_people_denied (σ : SC) (v : (Nat → Int32)) : c_people (sc_denied σ v) = c_people σ := rfl
theorem gs_c_people_whom (σ : SC) (v : (Nat → Int32)) : c_people (sc_whom σ v) = c_people σ := rfl
theorem gs_c_people_wday (σ : SC) (v : (Nat → Int32)) : c_people (sc_wday σ v) = c_people σ := rfl
theorem gs_c_people_asked (σ : SC) (v : Int32) : c_people (sc_asked σ v) = c_people σ := rfl
theorem gs_c_people_days (σ : SC) (v : Int32) : c_people (sc_days σ v) = c_people σ := rfl
theorem gs_c_people_changes (σ : SC) (v : Int32) : c_people (sc_changes σ v) = c_people σ := rfl
theorem gs_c_people_knexts (σ : SC) (v : (Nat → Int32)) : c_people (sc_knexts σ v) = c_people σ := rfl
theorem gs_c_people_klsts (σ : SC) (v : (Nat → Int32)) : c_people (sc_klsts σ v) = c_people σ := rfl
theorem gs_c_people_kheard (σ : SC) (v : (Nat → Int32)) : c_people (sc_kheard σ v) = c_people σ := rfl
theorem gs_c_people_klast (σ : SC) (v : (Nat → Int32)) : c_people (sc_klast σ v) = c_people σ := rfl
theorem gs_c_people_kdenied (σ : SC) (v : (Nat → Int32)) : c_people (sc_kdenied σ v) = c_people σ := rfl
theorem gs_c_people_kwhom (σ : SC) (v : (Nat → Int32)) : c_people (sc_kwhom σ v) = c_people σ := rfl
theorem gs_c_people_kwday (σ : SC) (v : (Nat → Int32)) : c_people (sc_kwday σ v) = c_people σ := rfl
theorem gs_c_people_kasked (σ : SC) (v : Int32) : c_people (sc_kasked σ v) = c_people σ := rfl
theorem gs_c_people_kdays (σ : SC) (v : Int32) : c_people (sc_kdays σ v) = c_people σ := rfl
theorem gs_c_people_kchanges (σ : SC) (v : Int32) : c_people (sc_kchanges σ v) = c_people σ := rfl
theorem gs_c_people_left (σ : SC) (v : (Nat → Int32)) : c_people (sc_left σ v) = c_people σ := rfl
theorem gs_c_people_hasImage (σ : SC) (v : Int32) : c_people (sc_hasImage σ v) = c_people σ := rfl
theorem gs_c_people_readings (σ : SC) (v : Int32) : c_people (sc_readings σ v) = c_people σ := rfl
theorem gs_c_river_river (σ : SC) (v : Int32) : c_river (sc_river σ v) = v := rfl
theorem ss_c_river (σ : SC) (v w : Int32) : sc_river (sc_river σ v) w = sc_river σ w := rfl
theorem gs_c_river_codes (σ : SC) (v : (Nat → Int32)) : c_river (sc_codes σ v) = c_river σ := rfl
theorem gs_c_river_plen (σ : SC) (v : Int32) : c_river (sc_plen σ v) = c_river σ := rfl
theorem gs_c_river_kinds (σ : SC) (v : (Nat → Int32)) : c_river (sc_kinds σ v) = c_river σ := rfl
theorem gs_c_river_people (σ : SC) (v : Int32) : c_river (sc_people σ v) = c_river σ := rfl
theorem gs_c_river_nexts (σ : SC) (v : (Nat → Int32)) : c_river (sc_nexts σ v) = c_river σ := rfl
theorem gs_c_river_lsts (σ : SC) (v : (Nat → Int32)) : c_river (sc_lsts σ v) = c_river σ := rfl
theorem gs_c_river_heard (σ : SC) (v : (Nat → Int32)) : c_river (sc_heard σ v) = c_river σ := rfl
theorem gs_c_river_last (σ : SC) (v : (Nat → Int32)) : c_river (sc_last σ v) = c_river σ := rfl
theorem gs_c_river_denied (σ : SC) (v : (Nat → Int32)) : c_river (sc_denied σ v) = c_river σ := rfl
theorem gs_c_river_whom (σ : SC) (v : (Nat → Int32)) : c_river (sc_whom σ v) = c_river σ := rfl
theorem gs_c_river_wday (σ : SC) (v : (Nat → Int32)) : c_river (sc_wday σ v) = c_river σ := rfl
theorem gs_c_river_asked (σ : SC) (v : Int32) : c_river (sc_asked σ v) = c_river σ := rfl
theorem gs_c_river_days (σ : SC) (v : Int32) : c_river (sc_days σ v) = c_river σ := rfl
theorem gs_c_river_changes (σ : SC) (v : Int32) : c_river (sc_changes σ v) = c_river σ := rfl
theorem gs_c_river_knexts (σ : SC) (v : (Nat → Int32)) : c_river (sc_knexts σ v) = c_river σ := rfl
theorem gs_c_river_klsts (σ : SC) (v : (Nat → Int32)) : c_river (sc_klsts σ v) = c_river σ := rfl
theorem gs_c_river_kheard (σ : SC) (v : (Nat → Int32)) : c_river (sc_kheard σ v) = c_river σ := rfl
theorem gs_c_river_klast (σ : SC) (v : (Nat → Int32)) : c_river (sc_klast σ v) = c_river σ := rfl
theorem gs_c_river_kdenied (σ : SC) (v : (Nat → Int32)) : c_river (sc_kdenied σ v) = c_river σ := rfl
theorem gs_c_river_kwhom (σ : SC) (v : (Nat → Int32)) : c_river (sc_kwhom σ v) = c_river σ := rfl
theorem gs_c_river_kwday (σ : SC) (v : (Nat → Int32)) : c_river (sc_kwday σ v) = c_river σ := rfl
theorem gs_c_river_kasked (σ : SC) (v : Int32) : c_river (sc_kasked σ v) = c_river σ := rfl
theorem gs_c_river_kdays (σ : SC) (v : Int32) : c_river (sc_kdays σ v) = c_river σ := rfl
theorem gs_c_river_kchanges (σ : SC) (v : Int32) : c_river (sc_kchanges σ v) = c_river σ := rfl
theorem gs_c_river_left (σ : SC) (v : (Nat → Int32)) : c_river (sc_left σ v) = c_river σ := rfl
theorem gs_c_river_hasImage (σ : SC) (v : Int32) : c_river (sc_hasImage σ v) = c_river σ := rfl
theorem gs_c_river_readings (σ : SC) (v : Int32) : c_river (sc_readings σ v) = c_river σ := rfl
theorem gs_c_nexts_nexts (σ : SC) (v : (Nat → Int32)) : c_nexts (sc_nexts σ v) = v := rfl
theorem ss_c_nexts (σ : SC) (v w : (Nat → Int32)) : sc_nexts (sc_nexts σ v) w = sc_nexts σ w := rfl
theorem gs_c_nexts_codes (σ : SC) (v : (Nat → Int32)) : c_nexts (sc_codes σ v) = c_nexts σ := rfl
theorem gs_c_nexts_plen (σ : SC) (v : Int32) : c_nexts (sc_plen σ v) = c_nexts σ := rfl
theorem gs_c_nexts_kinds (σ : SC) (v : (Nat → Int32)) : c_nexts (sc_kinds σ v) = c_nexts σ := rfl
theorem gs_c_nexts_people (σ : SC) (v : Int32) : c_nexts (sc_people σ v) = c_nexts σ := rfl
theorem gs_c_nexts_river (σ : SC) (v : Int32) : c_nexts (sc_river σ v) = c_nexts σ := rfl
theorem gs_c_nexts_lsts (σ : SC) (v : (Nat → Int32)) : c_nexts (sc_lsts σ v) = c_nexts σ := rfl
theorem gs_c_nexts_heard (σ : SC) (v : (Nat → Int32)) : c_nexts (sc_heard σ v) = c_nexts σ := rfl
theorem gs_c_nexts_last (σ : SC) (v : (Nat → Int32)) : c_nexts (sc_last σ v) = c_nexts σ := rfl
theorem gs_c_nexts_denied (σ : SC) (v : (Nat → Int32)) : c_nexts (sc_denied σ v) = c_nexts σ := rfl
theorem gs_c_nexts_whom (σ : SC) (v : (Nat → Int32)) : c_nexts (sc_whom σ v) = c_nexts σ := rfl
theorem gs_c_nexts_wday (σ : SC) (v : (Nat → Int32)) : c_nexts (sc_wday σ v) = c_nexts σ := rfl
theorem gs_c_nexts_asked (σ : SC) (v : Int32) : c_nexts (sc_asked σ v) = c_nexts σ := rfl
theorem gs_c_nexts_days (σ : SC) (v : Int32) : c_nexts (sc_days σ v) = c_nexts σ := rfl
theorem gs_c_nexts_changes (σ : SC) (v : Int32) : c_nexts (sc_changes σ v) = c_nexts σ := rfl
theorem gs_c_nexts_knexts (σ : SC) (v : (Nat → Int32)) : c_nexts (sc_knexts σ v) = c_nexts σ := rfl
theorem gs_c_nexts_klsts (σ : SC) (v : (Nat → Int32)) : c_nexts (sc_klsts σ v) = c_nexts σ := rfl
theorem gs_c_nexts_kheard (σ : SC) (v : (Nat → Int32)) : c_nexts (sc_kheard σ v) = c_nexts σ := rfl
theorem gs_c_nexts_klast (σ : SC) (v : (Nat → Int32)) : c_nexts (sc_klast σ v) = c_nexts σ := rfl
theorem gs_c_nexts_kdenied (σ : SC) (v : (Nat → Int32)) : c_nexts (sc_kdenied σ v) = c_nexts σ := rfl
theorem gs_c_nexts_kwhom (σ : SC) (v : (Nat → Int32)) : c_nexts (sc_kwhom σ v) = c_nexts σ := rfl
theorem gs_c_nexts_kwday (σ : SC) (v : (Nat → Int32)) : c_nexts (sc_kwday σ v) = c_nexts σ := rfl
theorem gs_c_nexts_kasked (σ : SC) (v : Int32) : c_nexts (sc_kasked σ v) = c_nexts σ := rfl
theorem gs_c_nexts_kdays (σ : SC) (v : Int32) : c_nexts (sc_kdays σ v) = c_nexts σ := rfl
theorem gs_c_nexts_kchanges (σ : SC) (v : Int32) : c_nexts (sc_kchanges σ v) = c_nexts σ := rfl
theorem gs_c_nexts_left (σ : SC) (v : (Nat → Int32)) : c_nexts (sc_left σ v) = c_nexts σ := rfl
theorem gs_c_nexts_hasImage (σ : SC) (v : Int32) : c_nexts (sc_hasImage σ v) = c_nexts σ := rfl
theorem gs_c_nexts_readings (σ : SC) (v : Int32) : c_nexts (sc_readings σ v) = c_nexts σ := rfl
theorem gs_c_lsts_lsts (σ : SC) (v : (Nat → Int32)) : c_lsts (sc_lsts σ v) = v := rfl
theorem ss_c_lsts (σ : SC) (v w : (Nat → Int32)) : sc_lsts (sc_lsts σ v) w = sc_lsts σ w := rfl
theorem gs_c_lsts_codes (σ : SC) (v : (Nat → Int32)) : c_lsts (sc_codes σ v) = c_lsts σ := rfl
theorem gs_c_lsts_plen (σ : SC) (v : Int32) : c_lsts (sc_plen σ v) = c_lsts σ := rfl
theorem gs_c_lsts_kinds (σ : SC) (v : (Nat → Int32)) : c_lsts (sc_kinds σ v) = c_lsts σ := rfl
theorem gs_c_lsts_people (σ : SC) (v : Int32) : c_lsts (sc_people σ v) = c_lsts σ := rfl
theorem gs_c_lsts_river (σ : SC) (v : Int32) : c_lsts (sc_river σ v) = c_lsts σ := rfl
theorem gs_c_lsts_nexts (σ : SC) (v : (Nat → Int32)) : c_lsts (sc_nexts σ v) = c_lsts σ := rfl
theorem gs_c_lsts_heard (σ : SC) (v : (Nat → Int32)) : c_lsts (sc_heard σ v) = c_lsts σ := rfl
theorem gs_c_lsts_last (σ : SC) (v : (Nat → Int32)) : c_lsts (sc_last σ v) = c_lsts σ := rfl
theorem gs_c_lsts_denied (σ : SC) (v : (Nat → Int32)) : c_lsts (sc_denied σ v) = c_lsts σ := rfl
theorem gs_c_lsts_whom (σ : SC) (v : (Nat → Int32)) : c_lsts (sc_whom σ v) = c_lsts σ := rfl
theorem gs_c_lsts_wday (σ : SC) (v : (Nat → Int32)) : c_lsts (sc_wday σ v) = c_lsts σ := rfl
theorem gs_c_lsts_asked (σ : SC) (v : Int32) : c_lsts (sc_asked σ v) = c_lsts σ := rfl
theorem gs_c_lsts_days (σ : SC) (v : Int32) : c_lsts (sc_days σ v) = c_lsts σ := rfl
theorem gs_c_lsts_changes (σ : SC) (v : Int32) : c_lsts (sc_changes σ v) = c_lsts σ := rfl
theorem gs_c_lsts_knexts (σ : SC) (v : (Nat → Int32)) : c_lsts (sc_knexts σ v) = c_lsts σ := rfl
theorem gs_c_lsts_klsts (σ : SC) (v : (Nat → Int32)) : c_lsts (sc_klsts σ v) = c_lsts σ := rfl
theorem gs_c_lsts_kheard (σ : SC) (v : (Nat → Int32)) : c_lsts (sc_kheard σ v) = c_lsts σ := rfl
theorem gs_c_lsts_klast (σ : SC) (v : (Nat → Int32)) : c_lsts (sc_klast σ v) = c_lsts σ := rfl
theorem gs_c_lsts_kdenied (σ : SC) (v : (Nat → Int32)) : c_lsts (sc_kdenied σ v) = c_lsts σ := rfl
theorem gs_c_lsts_kwhom (σ : SC) (v : (Nat → Int32)) : c_lsts (sc_kwhom σ v) = c_lsts σ := rfl
theorem gs_c_lsts_kwday (σ : SC) (v : (Nat → Int32)) : c_lsts (sc_kwday σ v) = c_lsts σ := rfl
theorem gs_c_lsts_kasked (σ : SC) (v : Int32) : c_lsts (sc_kasked σ v) = c_lsts σ := rfl
theorem gs_c_lsts_kdays (σ : SC) (v : Int32) : c_lsts (sc_kdays σ v) = c_lsts σ := rfl
theorem gs_c_lsts_kchanges (σ : SC) (v : Int32) : c_lsts (sc_kchanges σ v) = c_lsts σ := rfl
theorem gs_c_lsts_left (σ : SC) (v : (Nat → Int32)) : c_lsts (sc_left σ v) = c_lsts σ := rfl
theorem gs_c_lsts_hasImage (σ : SC) (v : Int32) : c_lsts (sc_hasImage σ v) = c_lsts σ := rfl
theorem gs_c_lsts_readings (σ : SC) (v : Int32) : c_lsts (sc_readings σ v) = c_lsts σ := rfl
theorem gs_c_heard_heard (σ : SC) (v : (Nat → Int32)) : c_heard (sc_heard σ v) = v := rfl
theorem ss_c_heard (σ : SC) (v w : (Nat → Int32)) : sc_heard (sc_heard σ v) w = sc_heard σ w := rfl
theorem gs_c_heard_codes (σ : SC) (v : (Nat → Int32)) : c_heard (sc_codes σ v) = c_heard σ := rfl
theorem gs_c_heard_plen (σ : SC) (v : Int32) : c_heard (sc_plen σ v) = c_heard σ := rfl
theorem gs_c_heard_kinds (σ : SC) (v : (Nat → Int32)) : c_heard (sc_kinds σ v) = c_heard σ := rfl
theorem gs_c_heard_people (σ : SC) (v : Int32) : c_heard (sc_people σ v) = c_heard σ := rfl
theorem gs_c_heard_river (σ : SC) (v : Int32) : c_heard (sc_river σ v) = c_heard σ := rfl
theorem gs_c_heard_nexts (σ : SC) (v : (Nat → Int32)) : c_heard (sc_nexts σ v) = c_heard σ := rfl
theorem gs_c_heard_lsts (σ : SC) (v : (Nat → Int32)) : c_heard (sc_lsts σ v) = c_heard σ := rfl
theorem gs_c_heard_last (σ : SC) (v : (Nat → Int32)) : c_heard (sc_last σ v) = c_heard σ := rfl
theorem gs_c_heard_denied (σ : SC) (v : (Nat → Int32)) : c_heard (sc_denied σ v) = c_heard σ := rfl
theorem gs_c_heard_whom (σ : SC) (v : (Nat → Int32)) : c_heard (sc_whom σ v) = c_heard σ := rfl
theorem gs_c_heard_wday (σ : SC) (v : (Nat → Int32)) : c_heard (sc_wday σ v) = c_heard σ := rfl
theorem gs_c_heard_asked (σ : SC) (v : Int32) : c_heard (sc_asked σ v) = c_heard σ := rfl
theorem gs_c_heard_days (σ : SC) (v : Int32) : c_heard (sc_days σ v) = c_heard σ := rfl
theorem gs_c_heard_changes (σ : SC) (v : Int32) : c_heard (sc_changes σ v) = c_heard σ := rfl
theorem gs_c_heard_knexts (σ : SC) (v : (Nat → Int32)) : c_heard (sc_knexts σ v) = c_heard σ := rfl
theorem gs_c_heard_klsts (σ : SC) (v : (Nat → Int32)) : c_heard (sc_klsts σ v) = c_heard σ := rfl
theorem gs_c_heard_kheard (σ : SC) (v : (Nat → Int32)) : c_heard (sc_kheard σ v) = c_heard σ := rfl
theorem gs_c_heard_klast (σ : SC) (v : (Nat → Int32)) : c_heard (sc_klast σ v) = c_heard σ := rfl
theorem gs_c_heard_kdenied (σ : SC) (v : (Nat → Int32)) : c_heard (sc_kdenied σ v) = c_heard σ := rfl
theorem gs_c_heard_kwhom (σ : SC) (v : (Nat → Int32)) : c_heard (sc_kwhom σ v) = c_heard σ := rfl
theorem gs_c_heard_kwday (σ : SC) (v : (Nat → Int32)) : c_heard (sc_kwday σ v) = c_heard σ := rfl
theorem gs_c_heard_kasked (σ : SC) (v : Int32) : c_heard (sc_kasked σ v) = c_heard σ := rfl
theorem gs_c_heard_kdays (σ : SC) (v : Int32) : c_heard (sc_kdays σ v) = c_heard σ := rfl
theorem gs_c_heard_kchanges (σ : SC) (v : Int32) : c_heard (sc_kchanges σ v) = c_heard σ := rfl
theorem gs_c_heard_left (σ : SC) (v : (Nat → Int32)) : c_heard (sc_left σ v) = c_heard σ := rfl
theorem gs_c_heard_hasImage (σ : SC) (v : Int32) : c_heard (sc_hasImage σ v) = c_heard σ := rfl
theorem gs_c_heard_readings (σ : SC) (v : Int32) : c_heard (sc_readings σ v) = c_heard σ := rfl
theorem gs_c_last_last (σ : SC) (v : (Nat → Int32)) : c_last (sc_last σ v) = v := rfl
theorem ss_c_last (σ : SC) (v w : (Nat → Int32)) : sc_last (sc_last σ v) w = sc_last σ w := rfl
theorem gs_c_last_codes (σ : SC) (v : (Nat → Int32)) : c_last (sc_codes σ v) = c_last σ := rfl
theorem gs_c_last_plen (σ : SC) (v : Int32) : c_last (sc_plen σ v) = c_last σ := rfl
theorem gs_c_last_kinds (σ : SC) (v : (Nat → Int32)) : c_last (sc_kinds σ v) = c_last σ := rfl
theorem gs_c_last_people (σ : SC) (v : Int32) : c_last (sc_people σ v) = c_last σ := rfl
theorem gs_c_last_river (σ : SC) (v : Int32) : c_last (sc_river σ v) = c_last σ := rfl
theorem gs_c_last_nexts (σ : SC) (v : (Nat → Int32)) : c_last (sc_nexts σ v) = c_last σ := rfl
theorem gs_c_last_lsts (σ : SC) (v : (Nat → Int32)) : c_last (sc_lsts σ v) = c_last σ := rfl
theorem gs_c_last_heard (σ : SC) (v : (Nat → Int32)) : c_last (sc_heard σ v) = c_last σ := rfl
theorem gs_c_last_denied (σ : SC) (v : (Nat → Int32)) : c_last (sc_denied σ v) = c_last σ := rfl
theorem gs_c_last_whom (σ : SC) (v : (Nat → Int32)) : c_last (sc_whom σ v) = c_last σ := rfl
theorem gs_c_last_wday (σ : SC) (v : (Nat → Int32)) : c_last (sc_wday σ v) = c_last σ := rfl
theorem gs_c_last_asked (σ : SC) (v : Int32) : c_last (sc_asked σ v) = c_last σ := rfl
theorem gs_c_last_days (σ : SC) (v : Int32) : c_last (sc_days σ v) = c_last σ := rfl
theorem gs_c_last_changes (σ : SC) (v : Int32) : c_last (sc_changes σ v) = c_last σ := rfl
theorem gs_c_last_knexts (σ : SC) (v : (Nat → Int32)) : c_last (sc_knexts σ v) = c_last σ := rfl
theorem gs_c_last_klsts (σ : SC) (v : (Nat → Int32)) : c_last (sc_klsts σ v) = c_last σ := rfl
theorem gs_c_last_kheard (σ : SC) (v : (Nat → Int32)) : c_last (sc_kheard σ v) = c_last σ := rfl
theorem gs_c_last_klast (σ : SC) (v : (Nat → Int32)) : c_last (sc_klast σ v) = c_last σ := rfl
theorem gs_c_last_kdenied (σ : SC) (v : (Nat → Int32)) : c_last (sc_kdenied σ v) = c_last σ := rfl
theorem gs_c_last_kwhom (σ : SC) (v : (Nat → Int32)) : c_last (sc_kwhom σ v) = c_last σ := rfl
theorem gs_c_last_kwday (σ : SC) (v : (Nat → Int32)) : c_last (sc_kwday σ v) = c_last σ := rfl
theorem gs_c_last_kasked (σ : SC) (v : Int32) : c_last (sc_kasked σ v) = c_last σ := rfl
theorem gs_c_last_kdays (σ : SC) (v : Int32) : c_last (sc_kdays σ v) = c_last σ := rfl
theorem gs_c_last_kchanges (σ : SC) (v : Int32) : c_last (sc_kchanges σ v) = c_last σ := rfl
theorem gs_c_last_left (σ : SC) (v : (Nat → Int32)) : c_last (sc_left σ v) = c_last σ := rfl
theorem gs_c_last_hasImage (σ : SC) (v : Int32) : c_last (sc_hasImage σ v) = c_last σ := rfl
theorem gs_c_last_readings (σ : SC) (v : Int32) : c_last (sc_readings σ v) = c_last σ := rfl
theorem gs_c_denied_denied (σ : SC) (v : (Nat → Int32)) : c_denied (sc_denied σ v) = v := rfl
theorem ss_c_denied (σ : SC) (v w : (Nat → Int32)) : sc_denied (sc_denied σ v) w = sc_denied σ w := rfl
theorem gs_c_denied_codes (σ : SC) (v : (Nat → Int32)) : c_denied (sc_codes σ v) = c_denied σ := rfl
theorem gs_c_denied_plen (σ : SC) (v : Int32) : c_denied (sc_plen σ v) = c_denied σ := rfl
theorem gs_c_denied_kinds (σ : SC) (v : (Nat → Int32)) : c_denied (sc_kinds σ v) = c_denied σ := rfl
theorem gs_c_denied_people (σ : SC) (v : Int32) : c_denied (sc_people σ v) = c_denied σ := rfl
theorem gs_c_denied_river (σ : SC) (v : Int32) : c_denied (sc_river σ v) = c_denied σ := rfl
theorem gs_c_denied_nexts (σ : SC) (v : (Nat → Int32)) : c_denied (sc_nexts σ v) = c_denied σ := rfl
theorem gs_c_denied_lsts (σ : SC) (v : (Nat → Int32)) : c_denied (sc_lsts σ v) = c_denied σ := rfl
theorem gs_c_denied_heard (σ : SC) (v : (Nat → Int32)) : c_denied (sc_heard σ v) = c_denied σ := rfl
theorem gs_c_denied_last (σ : SC) (v : (Nat → Int32)) : c_denied (sc_last σ v) = c_denied σ := rfl
theorem gs_c_denied_whom (σ : SC) (v : (Nat → Int32)) : c_denied (sc_whom σ v) = c_denied σ := rfl
theorem gs_c_denied_wday (σ : SC) (v : (Nat → Int32)) : c_denied (sc_wday σ v) = c_denied σ := rfl
theorem gs_c_denied_asked (σ : SC) (v : Int32) : c_denied (sc_asked σ v) = c_denied σ := rfl
theorem gs_c_denied_days (σ : SC) (v : Int32) : c_denied (sc_days σ v) = c_denied σ := rfl
theorem gs_c_denied_changes (σ : SC) (v : Int32) : c_denied (sc_changes σ v) = c_denied σ := rfl
theorem gs_c_denied_knexts (σ : SC) (v : (Nat → Int32)) : c_denied (sc_knexts σ v) = c_denied σ := rfl
theorem gs_c_denied_klsts (σ : SC) (v : (Nat → Int32)) : c_denied (sc_klsts σ v) = c_denied σ := rfl
theorem gs_c_denied_kheard (σ : SC) (v : (Nat → Int32)) : c_denied (sc_kheard σ v) = c_denied σ := rfl
theorem gs_c_denied_klast (σ : SC) (v : (Nat → Int32)) : c_denied (sc_klast σ v) = c_denied σ := rfl
theorem gs_c_denied_kdenied (σ : SC) (v : (Nat → Int32)) : c_denied (sc_kdenied σ v) = c_denied σ := rfl
theorem gs_c_denied_kwhom (σ : SC) (v : (Nat → Int32)) : c_denied (sc_kwhom σ v) = c_denied σ := rfl
theorem gs_c_denied_kwday (σ : SC) (v : (Nat → Int32)) : c_denied (sc_kwday σ v) = c_denied σ := rfl
theorem gs_c_denied_kasked (σ : SC) (v : Int32) : c_denied (sc_kasked σ v) = c_denied σ := rfl
theorem gs_c_denied_kdays (σ : SC) (v : Int32) : c_denied (sc_kdays σ v) = c_denied σ := rfl
theorem gs_c_denied_kchanges (σ : SC) (v : Int32) : c_denied (sc_kchanges σ v) = c_denied σ := rfl
theorem gs_c_denied_left (σ : SC) (v : (Nat → Int32)) : c_denied (sc_left σ v) = c_denied σ := rfl
theorem gs_c_denied_hasImage (σ : SC) (v : Int32) : c_denied (sc_hasImage σ v) = c_denied σ := rfl
theorem gs_c_denied_readings (σ : SC) (v : Int32) : c_denied (sc_readings σ v) = c_denied σ := rfl
theorem gs_c_whom_whom (σ : SC) (v : (Nat → Int32)) : c_whom (sc_whom σ v) = v := rfl
theorem ss_c_whom (σ : SC) (v w : (Nat → Int32)) : sc_whom (sc_whom σ v) w = sc_whom σ w := rfl
theorem gs_c_whom_codes (σ : SC) (v : (Nat → Int32)) : c_whom (sc_codes σ v) = c_whom σ := rfl
theorem gs_c_whom_plen (σ : SC) (v : Int32) : c_whom (sc_plen σ v) = c_whom σ := rfl
theorem gs_c_whom_kinds (σ : SC) (v : (Nat → Int32)) : c_whom (sc_kinds σ v) = c_whom σ := rfl
theorem gs_c_whom_people (σ : SC) (v : Int32) : c_whom (sc_people σ v) = c_whom σ := rfl
theorem gs_c_whom_river (σ : SC) (v : Int32) : c_whom (sc_river σ v) = c_whom σ := rfl
theorem gs_c_whom_nexts (σ : SC) (v : (Nat → Int32)) : c_whom (sc_nexts σ v) = c_whom σ := rfl
theorem gs_c_whom_lsts (σ : SC) (v : (Nat → Int32)) : c_whom (sc_lsts σ v) = c_whom σ := rfl
theorem gs_c_whom_heard (σ : SC) (v : (Nat → Int32)) : c_whom (sc_heard σ v) = c_whom σ := rfl
theorem gs_c_whom_last (σ : SC) (v : (Nat → Int32)) : c_whom (sc_last σ v) = c_whom σ := rfl
theorem gs_c_whom_denied (σ : SC) (v : (Nat → Int32)) : c_whom (sc_denied σ v) = c_whom σ := rfl
theorem gs_c_whom_wday (σ : SC) (v : (Nat → Int32)) : c_whom (sc_wday σ v) = c_whom σ := rfl
theorem gs_c_whom_asked (σ : SC) (v : Int32) : c_whom (sc_asked σ v) = c_whom σ := rfl
theorem gs_c_whom_days (σ : SC) (v : Int32) : c_whom (sc_days σ v) = c_whom σ := rfl
theorem gs_c_whom_changes (σ : SC) (v : Int32) : c_whom (sc_changes σ v) = c_whom σ := rfl
theorem gs_c_whom_knexts (σ : SC) (v : (Nat → Int32)) : c_whom (sc_knexts σ v) = c_whom σ := rfl
theorem gs_c_whom_klsts (σ : SC) (v : (Nat → Int32)) : c_whom (sc_klsts σ v) = c_whom σ := rfl
theorem gs_c_whom_kheard (σ : SC) (v : (Nat → Int32)) : c_whom (sc_kheard σ v) = c_whom σ := rfl
theorem gs_c_whom_klast (σ : SC) (v : (Nat → Int32)) : c_whom (sc_klast σ v) = c_whom σ := rfl
theorem gs_c_whom_kdenied (σ : SC) (v : (Nat → Int32)) : c_whom (sc_kdenied σ v) = c_whom σ := rfl
theorem gs_c_whom_kwhom (σ : SC) (v : (Nat → Int32)) : c_whom (sc_kwhom σ v) = c_whom σ := rfl
theorem gs_c_whom_kwday (σ : SC) (v : (Nat → Int32)) : c_whom (sc_kwday σ v) = c_whom σ := rfl
theorem gs_c_whom_kasked (σ : SC) (v : Int32) : c_whom (sc_kasked σ v) = c_whom σ := rfl
theorem gs_c_whom_kdays (σ : SC) (v : Int32) : c_whom (sc_kdays σ v) = c_whom σ := rfl
theorem gs_c_whom_kchanges (σ : SC) (v : Int32) : c_whom (sc_kchanges σ v) = c_whom σ := rfl
theorem gs_c_whom_left (σ : SC) (v : (Nat → Int32)) : c_whom (sc_left σ v) = c_whom σ := rfl
theorem gs_c_whom_hasImage (σ : SC) (v : Int32) : c_whom (sc_hasImage σ v) = c_whom σ := rfl
theorem gs_c_whom_readings (σ : SC) (v : Int32) : c_whom (sc_readings σ v) = c_whom σ := rfl
theorem gs_c_wday_wday (σ : SC) (v : (Nat → Int32)) : c_wday (sc_wday σ v) = v := rfl
theorem ss_c_wday (σ : SC) (v w : (Nat → Int32)) : sc_wday (sc_wday σ v) w = sc_wday σ w := rfl
theorem gs_c_wday_codes (σ : SC) (v : (Nat → Int32)) : c_wday (sc_codes σ v) = c_wday σ := rfl
theorem gs_c_wday_plen (σ : SC) (v : Int32) : c_wday (sc_plen σ v) = c_wday σ := rfl
theorem gs_c_wday_kinds (σ : SC) (v : (Nat → Int32)) : c_wday (sc_kinds σ v) = c_wday σ := rfl
theorem gs_c_wday_people (σ : SC) (v : Int32) : c_wday (sc_people σ v) = c_wday σ := rfl
theorem gs_c_wday_river (σ : SC) (v : Int32) : c_wday (sc_river σ v) = c_wday σ := rfl
theorem gs_c_wday_nexts (σ : SC) (v : (Nat → Int32)) : c_wday (sc_nexts σ v) = c_wday σ := rfl
theorem gs_c_wday_lsts (σ : SC) (v : (Nat → Int32)) : c_wday (sc_lsts σ v) = c_wday σ := rfl
theorem gs_c_wday_heard (σ : SC) (v : (Nat → Int32)) : c_wday (sc_heard σ v) = c_wday σ := rfl
theorem gs_c_wday_last (σ : SC) (v : (Nat → Int32)) : c_wday (sc_last σ v) = c_wday σ := rfl
theorem gs_c_wday_denied (σ : SC) (v : (Nat → Int32)) : c_wday (sc_denied σ v) = c_wday σ := rfl
theorem gs_c_wday_whom (σ : SC) (v : (Nat → Int32)) : c_wday (sc_whom σ v) = c_wday σ := rfl
theorem gs_c_wday_asked (σ : SC) (v : Int32) : c_wday (sc_asked σ v) = c_wday σ := rfl
theorem gs_c_wday_days (σ : SC) (v : Int32) : c_wday (sc_days σ v) = c_wday σ := rfl
theorem gs_c_wday_changes (σ : SC) (v : Int32) : c_wday (sc_changes σ v) = c_wday σ := rfl
theorem gs_c_wday_knexts (σ : SC) (v : (Nat → Int32)) : c_wday (sc_knexts σ v) = c_wday σ := rfl
theorem gs_c_wday_klsts (σ : SC) (v : (Nat → Int32)) : c_wday (sc_klsts σ v) = c_wday σ := rfl
theorem gs_c_wday_kheard (σ : SC) (v : (Nat → Int32)) : c_wday (sc_kheard σ v) = c_wday σ := rfl
theorem gs_c_wday_klast (σ : SC) (v : (Nat → Int32)) : c_wday (sc_klast σ v) = c_wday σ := rfl
theorem gs_c_wday_kdenied (σ : SC) (v : (Nat → Int32)) : c_wday (sc_kdenied σ v) = c_wday σ := rfl
theorem gs_c_wday_kwhom (σ : SC) (v : (Nat → Int32)) : c_wday (sc_kwhom σ v) = c_wday σ := rfl
theorem gs_c_wday_kwday (σ : SC) (v : (Nat → Int32)) : c_wday (sc_kwday σ v) = c_wday σ := rfl
theorem gs_c_wday_kasked (σ : SC) (v : Int32) : c_wday (sc_kasked σ v) = c_wday σ := rfl
theorem gs_c_wday_kdays (σ : SC) (v : Int32) : c_wday (sc_kdays σ v) = c_wday σ := rfl
theorem gs_c_wday_kchanges (σ : SC) (v : Int32) : c_wday (sc_kchanges σ v) = c_wday σ := rfl
theorem gs_c_wday_left (σ : SC) (v : (Nat → Int32)) : c_wday (sc_left σ v) = c_wday σ := rfl
theorem gs_c_wday_hasImage (σ : SC) (v : Int32) : c_wday (sc_hasImage σ v) = c_wday σ := rfl
theorem gs_c_wday_readings (σ : SC) (v : Int32) : c_wday (sc_readings σ v) = c_wday σ := rfl
theorem gs_c_asked_asked (σ : SC) (v : Int32) : c_asked (sc_asked σ v) = v := rfl
theorem ss_c_asked (σ : SC) (v w : Int32) : sc_asked (sc_asked σ v) w = sc_asked σ w := rfl
theorem gs_c_asked_codes (σ : SC) (v : (Nat → Int32)) : c_asked (sc_codes σ v) = c_asked σ := rfl
theorem gs_c_asked_plen (σ : SC) (v : Int32) : c_asked (sc_plen σ v) = c_asked σ := rfl
theorem gs_c_asked_kinds (σ : SC) (v : (Nat → Int32)) : c_asked (sc_kinds σ v) = c_asked σ := rfl
theorem gs_c_asked_people (σ : SC) (v : Int32) : c_asked (sc_people σ v) = c_asked σ := rfl
theorem gs_c_asked_river (σ : SC) (v : Int32) : c_asked (sc_river σ v) = c_asked σ := rfl
theorem gs_c_asked_nexts (σ : SC) (v : (Nat → Int32)) : c_asked (sc_nexts σ v) = c_asked σ := rfl
theorem gs_c_asked_lsts (σ : SC) (v : (Nat → Int32)) : c_asked (sc_lsts σ v) = c_asked σ := rfl
theorem gs_c_asked_heard (σ : SC) (v : (Nat → Int32)) : c_asked (sc_heard σ v) = c_asked σ := rfl
theorem gs_c_asked_last (σ : SC) (v : (Nat → Int32)) : c_asked (sc_last σ v) = c_asked σ := rfl
theorem gs_c_asked_denied (σ : SC) (v : (Nat → Int32)) : c_asked (sc_denied σ v) = c_asked σ := rfl
theorem gs_c_asked_whom (σ : SC) (v : (Nat → Int32)) : c_asked (sc_whom σ v) = c_asked σ := rfl
theorem gs_c_asked_wday (σ : SC) (v : (Nat → Int32)) : c_asked (sc_wday σ v) = c_asked σ := rfl
theorem gs_c_asked_days (σ : SC) (v : Int32) : c_asked (sc_days σ v) = c_asked σ := rfl
theorem gs_c_asked_changes (σ : SC) (v : Int32) : c_asked (sc_changes σ v) = c_asked σ := rfl
theorem gs_c_asked_knexts (σ : SC) (v : (Nat → Int32)) : c_asked (sc_knexts σ v) = c_asked σ := rfl
theorem gs_c_asked_klsts (σ : SC) (v : (Nat → Int32)) : c_asked (sc_klsts σ v) = c_asked σ := rfl
theorem gs_c_asked_kheard (σ : SC) (v : (Nat → Int32)) : c_asked (sc_kheard σ v) = c_asked σ := rfl
theorem gs_c_asked_klast (σ : SC) (v : (Nat → Int32)) : c_asked (sc_klast σ v) = c_asked σ := rfl
theorem gs_c_asked_kdenied (σ : SC) (v : (Nat → Int32)) : c_asked (sc_kdenied σ v) = c_asked σ := rfl
theorem gs_c_asked_kwhom (σ : SC) (v : (Nat → Int32)) : c_asked (sc_kwhom σ v) = c_asked σ := rfl
theorem gs_c_asked_kwday (σ : SC) (v : (Nat → Int32)) : c_asked (sc_kwday σ v) = c_asked σ := rfl
theorem gs_c_asked_kasked (σ : SC) (v : Int32) : c_asked (sc_kasked σ v) = c_asked σ := rfl
theorem gs_c_asked_kdays (σ : SC) (v : Int32) : c_asked (sc_kdays σ v) = c_asked σ := rfl
theorem gs_c_asked_kchanges (σ : SC) (v : Int32) : c_asked (sc_kchanges σ v) = c_asked σ := rfl
theorem gs_c_asked_left (σ : SC) (v : (Nat → Int32)) : c_asked (sc_left σ v) = c_asked σ := rfl
theorem gs_c_asked_hasImage (σ : SC) (v : Int32) : c_asked (sc_hasImage σ v) = c_asked σ := rfl
theorem gs_c_asked_readings (σ : SC) (v : Int32) : c_asked (sc_readings σ v) = c_asked σ := rfl
theorem gs_c_days_days (σ : SC) (v : Int32) : c_days (sc_days σ v) = v := rfl
theorem ss_c_days (σ : SC) (v w : Int32) : sc_days (sc_days σ v) w = sc_days σ w := rfl
theorem gs_c_days_codes (σ : SC) (v : (Nat → Int32)) : c_days (sc_codes σ v) = c_days σ := rfl
theorem gs_c_days_plen (σ : SC) (v : Int32) : c_days (sc_plen σ v) = c_days σ := rfl
theorem gs_c_days_kinds (σ : SC) (v : (Nat → Int32)) : c_days (sc_kinds σ v) = c_days σ := rfl
theorem gs_c_days_people (σ : SC) (v : Int32) : c_days (sc_people σ v) = c_days σ := rfl
theorem gs_c_days_river (σ : SC) (v : Int32) : c_days (sc_river σ v) = c_days σ := rfl
theorem gs_c_days_nexts (σ : SC) (v : (Nat → Int32)) : c_days (sc_nexts σ v) = c_days σ := rfl
theorem gs_c_days_lsts (σ : SC) (v : (Nat → Int32)) : c_days (sc_lsts σ v) = c_days σ := rfl
theorem gs_c_days_heard (σ : SC) (v : (Nat → Int32)) : c_days (sc_heard σ v) = c_days σ := rfl
theorem gs_c_days_last (σ : SC) (v : (Nat → Int32)) : c_days (sc_last σ v) = c_days σ := rfl
theorem gs_c_days_denied (σ : SC) (v : (Nat → Int32)) : c_days (sc_denied σ v) = c_days σ := rfl
theorem gs_c_days_whom (σ : SC) (v : (Nat → Int32)) : c_days (sc_whom σ v) = c_days σ := rfl
theorem gs_c_days_wday (σ : SC) (v : (Nat → Int32)) : c_days (sc_wday σ v) = c_days σ := rfl
theorem gs_c_days_asked (σ : SC) (v : Int32) : c_days (sc_asked σ v) = c_days σ := rfl
theorem gs_c_days_changes (σ : SC) (v : Int32) : c_days (sc_changes σ v) = c_days σ := rfl
theorem gs_c_days_knexts (σ : SC) (v : (Nat → Int32)) : c_days (sc_knexts σ v) = c_days σ := rfl
theorem gs_c_days_klsts (σ : SC) (v : (Nat → Int32)) : c_days (sc_klsts σ v) = c_days σ := rfl
theorem gs_c_days_kheard (σ : SC) (v : (Nat → Int32)) : c_days (sc_kheard σ v) = c_days σ := rfl
theorem gs_c_days_klast (σ : SC) (v : (Nat → Int32)) : c_days (sc_klast σ v) = c_days σ := rfl
theorem gs_c_days_kdenied (σ : SC) (v : (Nat → Int32)) : c_days (sc_kdenied σ v) = c_days σ := rfl
theorem gs_c_days_kwhom (σ : SC) (v : (Nat → Int32)) : c_days (sc_kwhom σ v) = c_days σ := rfl
theorem gs_c_days_kwday (σ : SC) (v : (Nat → Int32)) : c_days (sc_kwday σ v) = c_days σ := rfl
theorem gs_c_days_kasked (σ : SC) (v : Int32) : c_days (sc_kasked σ v) = c_days σ := rfl
theorem gs_c_days_kdays (σ : SC) (v : Int32) : c_days (sc_kdays σ v) = c_days σ := rfl
theorem gs_c_days_kchanges (σ : SC) (v : Int32) : c_days (sc_kchanges σ v) = c_days σ := rfl
theorem gs_c_days_left (σ : SC) (v : (Nat → Int32)) : c_days (sc_left σ v) = c_days σ := rfl
theorem gs_c_days_hasImage (σ : SC) (v : Int32) : c_days (sc_hasImage σ v) = c_days σ := rfl
theorem gs_c_days_readings (σ : SC) (v : Int32) : c_days (sc_readings σ v) = c_days σ := rfl
theorem gs_c_changes_changes (σ : SC) (v : Int32) : c_changes (sc_changes σ v) = v := rfl
theorem ss_c_changes (σ : SC) (v w : Int32) : sc_changes (sc_changes σ v) w = sc_changes σ w := rfl
theorem gs_c_changes_codes (σ : SC) (v : (Nat → Int32)) : c_changes (sc_codes σ v) = c_changes σ := rfl
theorem gs_c_changes_plen (σ : SC) (v : Int32) : c_changes (sc_plen σ v) = c_changes σ := rfl
theorem gs_c_changes_kinds (σ : SC) (v : (Nat → Int32)) : c_changes (sc_kinds σ v) = c_changes σ := rfl
theorem gs_c_changes_people (σ : SC) (v : Int32) : c_changes (sc_people σ v) = c_changes σ := rfl
theorem gs_c_changes_river (σ : SC) (v : Int32) : c_changes (sc_river σ v) = c_changes σ := rfl
theorem gs_c_changes_nexts (σ : SC) (v : (Nat → Int32)) : c_changes (sc_nexts σ v) = c_changes σ := rfl
theorem gs_c_changes_lsts (σ : SC) (v : (Nat → Int32)) : c_changes (sc_lsts σ v) = c_changes σ := rfl
theorem gs_c_changes_heard (σ : SC) (v : (Nat → Int32)) : c_changes (sc_heard σ v) = c_changes σ := rfl
theorem gs_c_changes_last (σ : SC) (v : (Nat → Int32)) : c_changes (sc_last σ v) = c_changes σ := rfl
theorem gs_c_changes_denied (σ : SC) (v : (Nat → Int32)) : c_changes (sc_denied σ v) = c_changes σ := rfl
theorem gs_c_changes_whom (σ : SC) (v : (Nat → Int32)) : c_changes (sc_whom σ v) = c_changes σ := rfl
theorem gs_c_changes_wday (σ : SC) (v : (Nat → Int32)) : c_changes (sc_wday σ v) = c_changes σ := rfl
theorem gs_c_changes_asked (σ : SC) (v : Int32) : c_changes (sc_asked σ v) = c_changes σ := rfl
theorem gs_c_changes_days (σ : SC) (v : Int32) : c_changes (sc_days σ v) = c_changes σ := rfl
theorem gs_c_changes_knexts (σ : SC) (v : (Nat → Int32)) : c_changes (sc_knexts σ v) = c_changes σ := rfl
theorem gs_c_changes_klsts (σ : SC) (v : (Nat → Int32)) : c_changes (sc_klsts σ v) = c_changes σ := rfl
theorem gs_c_changes_kheard (σ : SC) (v : (Nat → Int32)) : c_changes (sc_kheard σ v) = c_changes σ := rfl
theorem gs_c_changes_klast (σ : SC) (v : (Nat → Int32)) : c_changes (sc_klast σ v) = c_changes σ := rfl
theorem gs_c_changes_kdenied (σ : SC) (v : (Nat → Int32)) : c_changes (sc_kdenied σ v) = c_changes σ := rfl
theorem gs_c_changes_kwhom (σ : SC) (v : (Nat → Int32)) : c_changes (sc_kwhom σ v) = c_changes σ := rfl
theorem gs_c_changes_kwday (σ : SC) (v : (Nat → Int32)) : c_changes (sc_kwday σ v) = c_changes σ := rfl
theorem gs_c_changes_kasked (σ : SC) (v : Int32) : c_changes (sc_kasked σ v) = c_changes σ := rfl
theorem gs_c_changes_kdays (σ : SC) (v : Int32) : c_changes (sc_kdays σ v) = c_changes σ := rfl
theorem gs_c_changes_kchanges (σ : SC) (v : Int32) : c_changes (sc_kchanges σ v) = c_changes σ := rfl
theorem gs_c_changes_left (σ : SC) (v : (Nat → Int32)) : c_changes (sc_left σ v) = c_changes σ := rfl
theorem gs_c_changes_hasImage (σ : SC) (v : Int32) : c_changes (sc_hasImage σ v) = c_changes σ := rfl
theorem gs_c_changes_readings (σ : SC) (v : Int32) : c_changes (sc_readings σ v) = c_changes σ := rfl
theorem gs_c_knexts_knexts (σ : SC) (v : (Nat → Int32)) : c_knexts (sc_knexts σ v) = v := rfl
theorem ss_c_knexts (σ : SC) (v w : (Nat → Int32)) : sc_knexts (sc_knexts σ v) w = sc_knexts σ w := rfl
theorem gs_c_knexts_codes (σ : SC) (v : (Nat → Int32)) : c_knexts (sc_codes σ v) = c_knexts σ := rfl
theorem gs_c_knexts_plen (σ : SC) (v : Int32) : c_knexts (sc_plen σ v) = c_knexts σ := rfl
theorem gs_c_knexts_kinds (σ : SC) (v : (Nat → Int32)) : c_knexts (sc_kinds σ v) = c_knexts σ := rfl
theorem gs_c_knexts_people (σ : SC) (v : Int32) : c_knexts (sc_people σ v) = c_knexts σ := rfl
theorem gs_c_knexts_river (σ : SC) (v : Int32) : c_knexts (sc_river σ v) = c_knexts σ := rfl
theorem gs_c_knexts_nexts (σ : SC) (v : (Nat → Int32)) : c_knexts (sc_nexts σ v) = c_knexts σ := rfl
theorem gs_c_knexts_lsts (σ : SC) (v : (Nat → Int32)) : c_knexts (sc_lsts σ v) = c_knexts σ := rfl
theorem gs_c_knexts_heard (σ : SC) (v : (Nat → Int32)) : c_knexts (sc_heard σ v) = c_knexts σ := rfl
theorem gs_c_knexts_last (σ : SC) (v : (Nat → Int32)) : c_knexts (sc_last σ v) = c_knexts σ := rfl
theorem gs_c_knexts_denied (σ : SC) (v : (Nat → Int32)) : c_knexts (sc_denied σ v) = c_knexts σ := rfl
theorem gs_c_knexts_whom (σ : SC) (v : (Nat → Int32)) : c_knexts (sc_whom σ v) = c_knexts σ := rfl
theorem gs_c_knexts_wday (σ : SC) (v : (Nat → Int32)) : c_knexts (sc_wday σ v) = c_knexts σ := rfl
theorem gs_c_knexts_asked (σ : SC) (v : Int32) : c_knexts (sc_asked σ v) = c_knexts σ := rfl
theorem gs_c_knexts_days (σ : SC) (v : Int32) : c_knexts (sc_days σ v) = c_knexts σ := rfl
theorem gs_c_knexts_changes (σ : SC) (v : Int32) : c_knexts (sc_changes σ v) = c_knexts σ := rfl
theorem gs_c_knexts_klsts (σ : SC) (v : (Nat → Int32)) : c_knexts (sc_klsts σ v) = c_knexts σ := rfl
theorem gs_c_knexts_kheard (σ : SC) (v : (Nat → Int32)) : c_knexts (sc_kheard σ v) = c_knexts σ := rfl
theorem gs_c_knexts_klast (σ : SC) (v : (Nat → Int32)) : c_knexts (sc_klast σ v) = c_knexts σ := rfl
theorem gs_c_knexts_kdenied (σ : SC) (v : (Nat → Int32)) : c_knexts (sc_kdenied σ v) = c_knexts σ := rfl
theorem gs_c_knexts_kwhom (σ : SC) (v : (Nat → Int32)) : c_knexts (sc_kwhom σ v) = c_knexts σ := rfl
theorem gs_c_knexts_kwday (σ : SC) (v : (Nat → Int32)) : c_knexts (sc_kwday σ v) = c_knexts σ := rfl
theorem gs_c_knexts_kasked (σ : SC) (v : Int32) : c_knexts (sc_kasked σ v) = c_knexts σ := rfl
theorem gs_c_knexts_kdays (σ : SC) (v : Int32) : c_knexts (sc_kdays σ v) = c_knexts σ := rfl
theorem gs_c_knexts_kchanges (σ : SC) (v : Int32) : c_knexts (sc_kchanges σ v) = c_knexts σ := rfl
theorem gs_c_knexts_left (σ : SC) (v : (Nat → Int32)) : c_knexts (sc_left σ v) = c_knexts σ := rfl
theorem gs_c_knexts_hasImage (σ : SC) (v : Int32) : c_knexts (sc_hasImage σ v) = c_knexts σ := rfl
theorem gs_c_knexts_readings (σ : SC) (v : Int32) : c_knexts (sc_readings σ v) = c_knexts σ := rfl
theorem gs_c_klsts_klsts (σ : SC) (v : (Nat → Int32)) : c_klsts (sc_klsts σ v) = v := rfl
theorem ss_c_klsts (σ : SC) (v w : (Nat → Int32)) : sc_klsts (sc_klsts σ v) w = sc_klsts σ w := rfl
theorem gs_c_klsts_codes (σ : SC) (v : (Nat → Int32)) : c_klsts (sc_codes σ v) = c_klsts σ := rfl
theorem gs_c_klsts_plen (σ : SC) (v : Int32) : c_klsts (sc_plen σ v) = c_klsts σ := rfl
theorem gs_c_klsts_kinds (σ : SC) (v : (Nat → Int32)) : c_klsts (sc_kinds σ v) = c_klsts σ := rfl
theorem gs_c_klsts_people (σ : SC) (v : Int32) : c_klsts (sc_people σ v) = c_klsts σ := rfl
theorem gs_c_klsts_river (σ : SC) (v : Int32) : c_klsts (sc_river σ v) = c_klsts σ := rfl
theorem gs_c_klsts_nexts (σ : SC) (v : (Nat → Int32)) : c_klsts (sc_nexts σ v) = c_klsts σ := rfl
theorem gs_c_klsts_lsts (σ : SC) (v : (Nat → Int32)) : c_klsts (sc_lsts σ v) = c_klsts σ := rfl
theorem gs_c_klsts_heard (σ : SC) (v : (Nat → Int32)) : c_klsts (sc_heard σ v) = c_klsts σ := rfl
theorem gs_c_klsts_last (σ : SC) (v : (Nat → Int32)) : c_klsts (sc_last σ v) = c_klsts σ := rfl
theorem gs_c_klsts_denied (σ : SC) (v : (Nat → Int32)) : c_klsts (sc_denied σ v) = c_klsts σ := rfl
theorem gs_c_klsts_whom (σ : SC) (v : (Nat → Int32)) : c_klsts (sc_whom σ v) = c_klsts σ := rfl
theorem gs_c_klsts_wday (σ : SC) (v : (Nat → Int32)) : c_klsts (sc_wday σ v) = c_klsts σ := rfl
theorem gs_c_klsts_asked (σ : SC) (v : Int32) : c_klsts (sc_asked σ v) = c_klsts σ := rfl
theorem gs_c_klsts_days (σ : SC) (v : Int32) : c_klsts (sc_days σ v) = c_klsts σ := rfl
theorem gs_c_klsts_changes (σ : SC) (v : Int32) : c_klsts (sc_changes σ v) = c_klsts σ := rfl
theorem gs_c_klsts_knexts (σ : SC) (v : (Nat → Int32)) : c_klsts (sc_knexts σ v) = c_klsts σ := rfl
theorem gs_c_klsts_kheard (σ : SC) (v : (Nat → Int32)) : c_klsts (sc_kheard σ v) = c_klsts σ := rfl
theorem gs_c_klsts_klast (σ : SC) (v : (Nat → Int32)) : c_klsts (sc_klast σ v) = c_klsts σ := rfl
theorem gs_c_klsts_kdenied (σ : SC) (v : (Nat → Int32)) : c_klsts (sc_kdenied σ v) = c_klsts σ := rfl
theorem gs_c_klsts_kwhom (σ : SC) (v : (Nat → Int32)) : c_klsts (sc_kwhom σ v) = c_klsts σ := rfl
theorem gs_c_klsts_kwday (σ : SC) (v : (Nat → Int32)) : c_klsts (sc_kwday σ v) = c_klsts σ := rfl
theorem gs_c_klsts_kasked (σ : SC) (v : Int32) : c_klsts (sc_kasked σ v) = c_klsts σ := rfl
theorem gs_c_klsts_kdays (σ : SC) (v : Int32) : c_klsts (sc_kdays σ v) = c_klsts σ := rfl
theorem gs_c_klsts_kchanges (σ : SC) (v : Int32) : c_klsts (sc_kchanges σ v) = c_klsts σ := rfl
theorem gs_c_klsts_left (σ : SC) (v : (Nat → Int32)) : c_klsts (sc_left σ v) = c_klsts σ := rfl
theorem gs_c_klsts_hasImage (σ : SC) (v : Int32) : c_klsts (sc_hasImage σ v) = c_klsts σ := rfl
theorem gs_c_klsts_readings (σ : SC) (v : Int32) : c_klsts (sc_readings σ v) = c_klsts σ := rfl
theorem gs_c_kheard_kheard (σ : SC) (v : (Nat → Int32)) : c_kheard (sc_kheard σ v) = v := rfl
theorem ss_c_kheard (σ : SC) (v w : (Nat → Int32)) : sc_kheard (sc_kheard σ v) w = sc_kheard σ w := rfl
theorem gs_c_kheard_codes (σ : SC) (v : (Nat → Int32)) : c_kheard (sc_codes σ v) = c_kheard σ := rfl
theorem gs_c_kheard_plen (σ : SC) (v : Int32) : c_kheard (sc_plen σ v) = c_kheard σ := rfl
theorem gs_c_kheard_kinds (σ : SC) (v : (Nat → Int32)) : c_kheard (sc_kinds σ v) = c_kheard σ := rfl
theorem gs_c_kheard_people (σ : SC) (v : Int32) : c_kheard (sc_people σ v) = c_kheard σ := rfl
theorem gs_c_kheard_river (σ : SC) (v : Int32) : c_kheard (sc_river σ v) = c_kheard σ := rfl
theorem gs_c_kheard_nexts (σ : SC) (v : (Nat → Int32)) : c_kheard (sc_nexts σ v) = c_kheard σ := rfl
theorem gs_c_kheard_lsts (σ : SC) (v : (Nat → Int32)) : c_kheard (sc_lsts σ v) = c_kheard σ := rfl
theorem gs_c_kheard_heard (σ : SC) (v : (Nat → Int32)) : c_kheard (sc_heard σ v) = c_kheard σ := rfl
theorem gs_c_kheard_last (σ : SC) (v : (Nat → Int32)) : c_kheard (sc_last σ v) = c_kheard σ := rfl
theorem gs_c_kheard_denied (σ : SC) (v : (Nat → Int32)) : c_kheard (sc_denied σ v) = c_kheard σ := rfl
theorem gs_c_kheard_whom (σ : SC) (v : (Nat → Int32)) : c_kheard (sc_whom σ v) = c_kheard σ := rfl
theorem gs_c_kheard_wday (σ : SC) (v : (Nat → Int32)) : c_kheard (sc_wday σ v) = c_kheard σ := rfl
theorem gs_c_kheard_asked (σ : SC) (v : Int32) : c_kheard (sc_asked σ v) = c_kheard σ := rfl
theorem gs_c_kheard_days (σ : SC) (v : Int32) : c_kheard (sc_days σ v) = c_kheard σ := rfl
theorem gs_c_kheard_changes (σ : SC) (v : Int32) : c_kheard (sc_changes σ v) = c_kheard σ := rfl
theorem gs_c_kheard_knexts (σ : SC) (v : (Nat → Int32)) : c_kheard (sc_knexts σ v) = c_kheard σ := rfl
theorem gs_c_kheard_klsts (σ : SC) (v : (Nat → Int32)) : c_kheard (sc_klsts σ v) = c_kheard σ := rfl
theorem gs_c_kheard_klast (σ : SC) (v : (Nat → Int32)) : c_kheard (sc_klast σ v) = c_kheard σ := rfl
theorem gs_c_kheard_kdenied (σ : SC) (v : (Nat → Int32)) : c_kheard (sc_kdenied σ v) = c_kheard σ := rfl
theorem gs_c_kheard_kwhom (σ : SC) (v : (Nat → Int32)) : c_kheard (sc_kwhom σ v) = c_kheard σ := rfl
theorem gs_c_kheard_kwday (σ : SC) (v : (Nat → Int32)) : c_kheard (sc_kwday σ v) = c_kheard σ := rfl
theorem gs_c_kheard_kasked (σ : SC) (v : Int32) : c_kheard (sc_kasked σ v) = c_kheard σ := rfl
theorem gs_c_kheard_kdays (σ : SC) (v : Int32) : c_kheard (sc_kdays σ v) = c_kheard σ := rfl
theorem gs_c_kheard_kchanges (σ : SC) (v : Int32) : c_kheard (sc_kchanges σ v) = c_kheard σ := rfl
theorem gs_c_kheard_left (σ : SC) (v : (Nat → Int32)) : c_kheard (sc_left σ v) = c_kheard σ := rfl
theorem gs_c_kheard_hasImage (σ : SC) (v : Int32) : c_kheard (sc_hasImage σ v) = c_kheard σ := rfl
theorem gs_c_kheard_readings (σ : SC) (v : Int32) : c_kheard (sc_readings σ v) = c_kheard σ := rfl
theorem gs_c_klast_klast (σ : SC) (v : (Nat → Int32)) : c_klast (sc_klast σ v) = v := rfl
theorem ss_c_klast (σ : SC) (v w : (Nat → Int32)) : sc_klast (sc_klast σ v) w = sc_klast σ w := rfl
theorem gs_c_klast_codes (σ : SC) (v : (Nat → Int32)) : c_klast (sc_codes σ v) = c_klast σ := rfl
theorem gs_c_klast_plen (σ : SC) (v : Int32) : c_klast (sc_plen σ v) = c_klast σ := rfl
theorem gs_c_klast_kinds (σ : SC) (v : (Nat → Int32)) : c_klast (sc_kinds σ v) = c_klast σ := rfl
theorem gs_c_klast_people (σ : SC) (v : Int32) : c_klast (sc_people σ v) = c_klast σ := rfl
theorem gs_c_klast_river (σ : SC) (v : Int32) : c_klast (sc_river σ v) = c_klast σ := rfl
theorem gs_c_klast_nexts (σ : SC) (v : (Nat → Int32)) : c_klast (sc_nexts σ v) = c_klast σ := rfl
theorem gs_c_klast_lsts (σ : SC) (v : (Nat → Int32)) : c_klast (sc_lsts σ v) = c_klast σ := rfl
theorem gs_c_klast_heard (σ : SC) (v : (Nat → Int32)) : c_klast (sc_heard σ v) = c_klast σ := rfl
theorem gs_c_klast_last (σ : SC) (v : (Nat → Int32)) : c_klast (sc_last σ v) = c_klast σ := rfl
theorem gs_c_klast_denied (σ : SC) (v : (Nat → Int32)) : c_klast (sc_denied σ v) = c_klast σ := rfl
theorem gs_c_klast_whom (σ : SC) (v : (Nat → Int32)) : c_klast (sc_whom σ v) = c_klast σ := rfl
theorem gs_c_klast_wday (σ : SC) (v : (Nat → Int32)) : c_klast (sc_wday σ v) = c_klast σ := rfl
theorem gs_c_klast_asked (σ : SC) (v : Int32) : c_klast (sc_asked σ v) = c_klast σ := rfl
theorem gs_c_klast_days (σ : SC) (v : Int32) : c_klast (sc_days σ v) = c_klast σ := rfl
theorem gs_c_klast_changes (σ : SC) (v : Int32) : c_klast (sc_changes σ v) = c_klast σ := rfl
theorem gs_c_klast_knexts (σ : SC) (v : (Nat → Int32)) : c_klast (sc_knexts σ v) = c_klast σ := rfl
theorem gs_c_klast_klsts (σ : SC) (v : (Nat → Int32)) : c_klast (sc_klsts σ v) = c_klast σ := rfl
theorem gs_c_klast_kheard (σ : SC) (v : (Nat → Int32)) : c_klast (sc_kheard σ v) = c_klast σ := rfl
theorem gs_c_klast_kdenied (σ : SC) (v : (Nat → Int32)) : c_klast (sc_kdenied σ v) = c_klast σ := rfl
theorem gs_c_klast_kwhom (σ : SC) (v : (Nat → Int32)) : c_klast (sc_kwhom σ v) = c_klast σ := rfl
theorem gs_c_klast_kwday (σ : SC) (v : (Nat → Int32)) : c_klast (sc_kwday σ v) = c_klast σ := rfl
theorem gs_c_klast_kasked (σ : SC) (v : Int32) : c_klast (sc_kasked σ v) = c_klast σ := rfl
theorem gs_c_klast_kdays (σ : SC) (v : Int32) : c_klast (sc_kdays σ v) = c_klast σ := rfl
theorem gs_c_klast_kchanges (σ : SC) (v : Int32) : c_klast (sc_kchanges σ v) = c_klast σ := rfl
theorem gs_c_klast_left (σ : SC) (v : (Nat → Int32)) : c_klast (sc_left σ v) = c_klast σ := rfl
theorem gs_c_klast_hasImage (σ : SC) (v : Int32) : c_klast (sc_hasImage σ v) = c_klast σ := rfl
theorem gs_c_klast_readings (σ : SC) (v : Int32) : c_klast (sc_readings σ v) = c_klast σ := rfl
theorem gs_c_kdenied_kdenied (σ : SC) (v : (Nat → Int32)) : c_kdenied (sc_kdenied σ v) = v := rfl
theorem ss_c_kdenied (σ : SC) (v w : (Nat → Int32)) : sc_kdenied (sc_kdenied σ v) w = sc_kdenied σ w := rfl
theorem gs_c_kdenied_codes (σ : SC) (v : (Nat → Int32)) : c_kdenied (sc_codes σ v) = c_kdenied σ := rfl
theorem gs_c_kdenied_plen (σ : SC) (v : Int32) : c_kdenied (sc_plen σ v) = c_kdenied σ := rfl
theorem gs_c_kdenied_kinds (σ : SC) (v : (Nat → Int32)) : c_kdenied (sc_kinds σ v) = c_kdenied σ := rfl
theorem gs_c_kdenied_people (σ : SC) (v : Int32) : c_kdenied (sc_people σ v) = c_kdenied σ := rfl
theorem gs_c_kdenied_river (σ : SC) (v : Int32) : c_kdenied (sc_river σ v) = c_kdenied σ := rfl
theorem gs_c_kdenied_nexts (σ : SC) (v : (Nat → Int32)) : c_kdenied (sc_nexts σ v) = c_kdenied σ := rfl
theorem gs_c_kdenied_lsts (σ : SC) (v : (Nat → Int32)) : c_kdenied (sc_lsts σ v) = c_kdenied σ := rfl
theorem gs_c_kdenied_heard (σ : SC) (v : (Nat → Int32)) : c_kdenied (sc_heard σ v) = c_kdenied σ := rfl
theorem gs_c_kdenied_last (σ : SC) (v : (Nat → Int32)) : c_kdenied (sc_last σ v) = c_kdenied σ := rfl
theorem gs_c_kdenied_denied (σ : SC) (v : (Nat → Int32)) : c_kdenied (sc_denied σ v) = c_kdenied σ := rfl
theorem gs_c_kdenied_whom (σ : SC) (v : (Nat → Int32)) : c_kdenied (sc_whom σ v) = c_kdenied σ := rfl
theorem gs_c_kdenied_wday (σ : SC) (v : (Nat → Int32)) : c_kdenied (sc_wday σ v) = c_kdenied σ := rfl
theorem gs_c_kdenied_asked (σ : SC) (v : Int32) : c_kdenied (sc_asked σ v) = c_kdenied σ := rfl
theorem gs_c_kdenied_days (σ : SC) (v : Int32) : c_kdenied (sc_days σ v) = c_kdenied σ := rfl
theorem gs_c_kdenied_changes (σ : SC) (v : Int32) : c_kdenied (sc_changes σ v) = c_kdenied σ := rfl
theorem gs_c_kdenied_knexts (σ : SC) (v : (Nat → Int32)) : c_kdenied (sc_knexts σ v) = c_kdenied σ := rfl
theorem gs_c_kdenied_klsts (σ : SC) (v : (Nat → Int32)) : c_kdenied (sc_klsts σ v) = c_kdenied σ := rfl
theorem gs_c_kdenied_kheard (σ : SC) (v : (Nat → Int32)) : c_kdenied (sc_kheard σ v) = c_kdenied σ := rfl
theorem gs_c_kdenied_klast (σ : SC) (v : (Nat → Int32)) : c_kdenied (sc_klast σ v) = c_kdenied σ := rfl
theorem gs_c_kdenied_kwhom (σ : SC) (v : (Nat → Int32)) : c_kdenied (sc_kwhom σ v) = c_kdenied σ := rfl
theorem gs_c_kdenied_kwday (σ : SC) (v : (Nat → Int32)) : c_kdenied (sc_kwday σ v) = c_kdenied σ := rfl
theorem gs_c_kdenied_kasked (σ : SC) (v : Int32) : c_kdenied (sc_kasked σ v) = c_kdenied σ := rfl
theorem gs_c_kdenied_kdays (σ : SC) (v : Int32) : c_kdenied (sc_kdays σ v) = c_kdenied σ := rfl
theorem gs_c_kdenied_kchanges (σ : SC) (v : Int32) : c_kdenied (sc_kchanges σ v) = c_kdenied σ := rfl
theorem gs_c_kdenied_left (σ : SC) (v : (Nat → Int32)) : c_kdenied (sc_left σ v) = c_kdenied σ := rfl
theorem gs_c_kdenied_hasImage (σ : SC) (v : Int32) : c_kdenied (sc_hasImage σ v) = c_kdenied σ := rfl
theorem gs_c_kdenied_readings (σ : SC) (v : Int32) : c_kdenied (sc_readings σ v) = c_kdenied σ := rfl
theorem gs_c_kwhom_kwhom (σ : SC) (v : (Nat → Int32)) : c_kwhom (sc_kwhom σ v) = v := rfl
theorem ss_c_kwhom (σ : SC) (v w : (Nat → Int32)) : sc_kwhom (sc_kwhom σ v) w = sc_kwhom σ w := rfl
theorem gs_c_kwhom_codes (σ : SC) (v : (Nat → Int32)) : c_kwhom (sc_codes σ v) = c_kwhom σ := rfl
theorem gs_c_kwhom_plen (σ : SC) (v : Int32) : c_kwhom (sc_plen σ v) = c_kwhom σ := rfl
theorem gs_c_kwhom_kinds (σ : SC) (v : (Nat → Int32)) : c_kwhom (sc_kinds σ v) = c_kwhom σ := rfl
theorem gs_c_kwhom_people (σ : SC) (v : Int32) : c_kwhom (sc_people σ v) = c_kwhom σ := rfl
theorem gs_c_kwhom_river (σ : SC) (v : Int32) : c_kwhom (sc_river σ v) = c_kwhom σ := rfl
theorem gs_c_kwhom_nexts (σ : SC) (v : (Nat → Int32)) : c_kwhom (sc_nexts σ v) = c_kwhom σ := rfl
theorem gs_c_kwhom_lsts (σ : SC) (v : (Nat → Int32)) : c_kwhom (sc_lsts σ v) = c_kwhom σ := rfl
theorem gs_c_kwhom_heard (σ : SC) (v : (Nat → Int32)) : c_kwhom (sc_heard σ v) = c_kwhom σ := rfl
theorem gs_c_kwhom_last (σ : SC) (v : (Nat → Int32)) : c_kwhom (sc_last σ v) = c_kwhom σ := rfl
theorem gs_c_kwhom_denied (σ : SC) (v : (Nat → Int32)) : c_kwhom (sc_denied σ v) = c_kwhom σ := rfl
theorem gs_c_kwhom_whom (σ : SC) (v : (Nat → Int32)) : c_kwhom (sc_whom σ v) = c_kwhom σ := rfl
theorem gs_c_kwhom_wday (σ : SC) (v : (Nat → Int32)) : c_kwhom (sc_wday σ v) = c_kwhom σ := rfl
theorem gs_c_kwhom_asked (σ : SC) (v : Int32) : c_kwhom (sc_asked σ v) = c_kwhom σ := rfl
theorem gs_c_kwhom_days (σ : SC) (v : Int32) : c_kwhom (sc_days σ v) = c_kwhom σ := rfl
theorem gs_c_kwhom_changes (σ : SC) (v : Int32) : c_kwhom (sc_changes σ v) = c_kwhom σ := rfl
theorem gs_c_kwhom_knexts (σ : SC) (v : (Nat → Int32)) : c_kwhom (sc_knexts σ v) = c_kwhom σ := rfl
theorem gs_c_kwhom_klsts (σ : SC) (v : (Nat → Int32)) : c_kwhom (sc_klsts σ v) = c_kwhom σ := rfl
theorem gs_c_kwhom_kheard (σ : SC) (v : (Nat → Int32)) : c_kwhom (sc_kheard σ v) = c_kwhom σ := rfl
theorem gs_c_kwhom_klast (σ : SC) (v : (Nat → Int32)) : c_kwhom (sc_klast σ v) = c_kwhom σ := rfl
theorem gs_c_kwhom_kdenied (σ : SC) (v : (Nat → Int32)) : c_kwhom (sc_kdenied σ v) = c_kwhom σ := rfl
theorem gs_c_kwhom_kwday (σ : SC) (v : (Nat → Int32)) : c_kwhom (sc_kwday σ v) = c_kwhom σ := rfl
theorem gs_c_kwhom_kasked (σ : SC) (v : Int32) : c_kwhom (sc_kasked σ v) = c_kwhom σ := rfl
theorem gs_c_kwhom_kdays (σ : SC) (v : Int32) : c_kwhom (sc_kdays σ v) = c_kwhom σ := rfl
theorem gs_c_kwhom_kchanges (σ : SC) (v : Int32) : c_kwhom (sc_kchanges σ v) = c_kwhom σ := rfl
theorem gs_c_kwhom_left (σ : SC) (v : (Nat → Int32)) : c_kwhom (sc_left σ v) = c_kwhom σ := rfl
theorem gs_c_kwhom_hasImage (σ : SC) (v : Int32) : c_kwhom (sc_hasImage σ v) = c_kwhom σ := rfl
theorem gs_c_kwhom_readings (σ : SC) (v : Int32) : c_kwhom (sc_readings σ v) = c_kwhom σ := rfl
theorem gs_c_kwday_kwday (σ : SC) (v : (Nat → Int32)) : c_kwday (sc_kwday σ v) = v := rfl
theorem ss_c_kwday (σ : SC) (v w : (Nat → Int32)) : sc_kwday (sc_kwday σ v) w = sc_kwday σ w := rfl
theorem gs_c_kwday_codes (σ : SC) (v : (Nat → Int32)) : c_kwday (sc_codes σ v) = c_kwday σ := rfl
theorem gs_c_kwday_plen (σ : SC) (v : Int32) : c_kwday (sc_plen σ v) = c_kwday σ := rfl
theorem gs_c_kwday_kinds (σ : SC) (v : (Nat → Int32)) : c_kwday (sc_kinds σ v) = c_kwday σ := rfl
theorem gs_c_kwday_people (σ : SC) (v : Int32) : c_kwday (sc_people σ v) = c_kwday σ := rfl
theorem gs_c_kwday_river (σ : SC) (v : Int32) : c_kwday (sc_river σ v) = c_kwday σ := rfl
theorem gs_c_kwday_nexts (σ : SC) (v : (Nat → Int32)) : c_kwday (sc_nexts σ v) = c_kwday σ := rfl
theorem gs_c_kwday_lsts (σ : SC) (v : (Nat → Int32)) : c_kwday (sc_lsts σ v) = c_kwday σ := rfl
theorem gs_c_kwday_heard (σ : SC) (v : (Nat → Int32)) : c_kwday (sc_heard σ v) = c_kwday σ := rfl
theorem gs_c_kwday_last (σ : SC) (v : (Nat → Int32)) : c_kwday (sc_last σ v) = c_kwday σ := rfl
theorem gs_c_kwday_denied (σ : SC) (v : (Nat → Int32)) : c_kwday (sc_denied σ v) = c_kwday σ := rfl
theorem gs_c_kwday_whom (σ : SC) (v : (Nat → Int32)) : c_kwday (sc_whom σ v) = c_kwday σ := rfl
theorem gs_c_kwday_wday (σ : SC) (v : (Nat → Int32)) : c_kwday (sc_wday σ v) = c_kwday σ := rfl
theorem gs_c_kwday_asked (σ : SC) (v : Int32) : c_kwday (sc_asked σ v) = c_kwday σ := rfl
theorem gs_c_kwday_days (σ : SC) (v : Int32) : c_kwday (sc_days σ v) = c_kwday σ := rfl
theorem gs_c_kwday_changes (σ : SC) (v : Int32) : c_kwday (sc_changes σ v) = c_kwday σ := rfl
theorem gs_c_kwday_knexts (σ : SC) (v : (Nat → Int32)) : c_kwday (sc_knexts σ v) = c_kwday σ := rfl
theorem gs_c_kwday_klsts (σ : SC) (v : (Nat → Int32)) : c_kwday (sc_klsts σ v) = c_kwday σ := rfl
theorem gs_c_kwday_kheard (σ : SC) (v : (Nat → Int32)) : c_kwday (sc_kheard σ v) = c_kwday σ := rfl
theorem gs_c_kwday_klast (σ : SC) (v : (Nat → Int32)) : c_kwday (sc_klast σ v) = c_kwday σ := rfl
theorem gs_c_kwday_kdenied (σ : SC) (v : (Nat → Int32)) : c_kwday (sc_kdenied σ v) = c_kwday σ := rfl
theorem gs_c_kwday_kwhom (σ : SC) (v : (Nat → Int32)) : c_kwday (sc_kwhom σ v) = c_kwday σ := rfl
theorem gs_c_kwday_kasked (σ : SC) (v : Int32) : c_kwday (sc_kasked σ v) = c_kwday σ := rfl
theorem gs_c_kwday_kdays (σ : SC) (v : Int32) : c_kwday (sc_kdays σ v) = c_kwday σ := rfl
theorem gs_c_kwday_kchanges (σ : SC) (v : Int32) : c_kwday (sc_kchanges σ v) = c_kwday σ := rfl
theorem gs_c_kwday_left (σ : SC) (v : (Nat → Int32)) : c_kwday (sc_left σ v) = c_kwday σ := rfl
theorem gs_c_kwday_hasImage (σ : SC) (v : Int32) : c_kwday (sc_hasImage σ v) = c_kwday σ := rfl
theorem gs_c_kwday_readings (σ : SC) (v : Int32) : c_kwday (sc_readings σ v) = c_kwday σ := rfl
theorem gs_c_kasked_kasked (σ : SC) (v : Int32) : c_kasked (sc_kasked σ v) = v := rfl
theorem ss_c_kasked (σ : SC) (v w : Int32) : sc_kasked (sc_kasked σ v) w = sc_kasked σ w := rfl
theorem gs_c_kasked_codes (σ : SC) (v : (Nat → Int32)) : c_kasked (sc_codes σ v) = c_kasked σ := rfl
theorem gs_c_kasked_plen (σ : SC) (v : Int32) : c_kasked (sc_plen σ v) = c_kasked σ := rfl
theorem gs_c_kasked_kinds (σ : SC) (v : (Nat → Int32)) : c_kasked (sc_kinds σ v) = c_kasked σ := rfl
theorem gs_c_kasked_people (σ : SC) (v : Int32) : c_kasked (sc_people σ v) = c_kasked σ := rfl
theorem gs_c_kasked_river (σ : SC) (v : Int32) : c_kasked (sc_river σ v) = c_kasked σ := rfl
theorem gs_c_kasked_nexts (σ : SC) (v : (Nat → Int32)) : c_kasked (sc_nexts σ v) = c_kasked σ := rfl
theorem gs_c_kasked_lsts (σ : SC) (v : (Nat → Int32)) : c_kasked (sc_lsts σ v) = c_kasked σ := rfl
theorem gs_c_kasked_heard (σ : SC) (v : (Nat → Int32)) : c_kasked (sc_heard σ v) = c_kasked σ := rfl
theorem gs_c_kasked_last (σ : SC) (v : (Nat → Int32)) : c_kasked (sc_last σ v) = c_kasked σ := rfl
theorem gs_c_kasked_denied (σ : SC) (v : (Nat → Int32)) : c_kasked (sc_denied σ v) = c_kasked σ := rfl
theorem gs_c_kasked_whom (σ : SC) (v : (Nat → Int32)) : c_kasked (sc_whom σ v) = c_kasked σ := rfl
theorem gs_c_kasked_wday (σ : SC) (v : (Nat → Int32)) : c_kasked (sc_wday σ v) = c_kasked σ := rfl
theorem gs_c_kasked_asked (σ : SC) (v : Int32) : c_kasked (sc_asked σ v) = c_kasked σ := rfl
theorem gs_c_kasked_days (σ : SC) (v : Int32) : c_kasked (sc_days σ v) = c_kasked σ := rfl
theorem gs_c_kasked_changes (σ : SC) (v : Int32) : c_kasked (sc_changes σ v) = c_kasked σ := rfl
theorem gs_c_kasked_knexts (σ : SC) (v : (Nat → Int32)) : c_kasked (sc_knexts σ v) = c_kasked σ := rfl
theorem gs_c_kasked_klsts (σ : SC) (v : (Nat → Int32)) : c_kasked (sc_klsts σ v) = c_kasked σ := rfl
theorem gs_c_kasked_kheard (σ : SC) (v : (Nat → Int32)) : c_kasked (sc_kheard σ v) = c_kasked σ := rfl
theorem gs_c_kasked_klast (σ : SC) (v : (Nat → Int32)) : c_kasked (sc_klast σ v) = c_kasked σ := rfl
theorem gs_c_kasked_kdenied (σ : SC) (v : (Nat → Int32)) : c_kasked (sc_kdenied σ v) = c_kasked σ := rfl
theorem gs_c_kasked_kwhom (σ : SC) (v : (Nat → Int32)) : c_kasked (sc_kwhom σ v) = c_kasked σ := rfl
theorem gs_c_kasked_kwday (σ : SC) (v : (Nat → Int32)) : c_kasked (sc_kwday σ v) = c_kasked σ := rfl
theorem gs_c_kasked_kdays (σ : SC) (v : Int32) : c_kasked (sc_kdays σ v) = c_kasked σ := rfl
theorem gs_c_kasked_kchanges (σ : SC) (v : Int32) : c_kasked (sc_kchanges σ v) = c_kasked σ := rfl
theorem gs_c_kasked_left (σ : SC) (v : (Nat → Int32)) : c_kasked (sc_left σ v) = c_kasked σ := rfl
theorem gs_c_kasked_hasImage (σ : SC) (v : Int32) : c_kasked (sc_hasImage σ v) = c_kasked σ := rfl
theorem gs_c_kasked_readings (σ : SC) (v : Int32) : c_kasked (sc_readings σ v) = c_kasked σ := rfl
theorem gs_c_kdays_kdays (σ : SC) (v : Int32) : c_kdays (sc_kdays σ v) = v := rfl
theorem ss_c_kdays (σ : SC) (v w : Int32) : sc_kdays (sc_kdays σ v) w = sc_kdays σ w := rfl
theorem gs_c_kdays_codes (σ : SC) (v : (Nat → Int32)) : c_kdays (sc_codes σ v) = c_kdays σ := rfl
theorem gs_c_kdays_plen (σ : SC) (v : Int32) : c_kdays (sc_plen σ v) = c_kdays σ := rfl
theorem gs_c_kdays_kinds (σ : SC) (v : (Nat → Int32)) : c_kdays (sc_kinds σ v) = c_kdays σ := rfl
theorem gs_c_kdays_people (σ : SC) (v : Int32) : c_kdays (sc_people σ v) = c_kdays σ := rfl
theorem gs_c_kdays_river (σ : SC) (v : Int32) : c_kdays (sc_river σ v) = c_kdays σ := rfl
theorem gs_c_kdays_nexts (σ : SC) (v : (Nat → Int32)) : c_kdays (sc_nexts σ v) = c_kdays σ := rfl
theorem gs_c_kdays_lsts (σ : SC) (v : (Nat → Int32)) : c_kdays (sc_lsts σ v) = c_kdays σ := rfl
theorem gs_c_kdays_heard (σ : SC) (v : (Nat → Int32)) : c_kdays (sc_heard σ v) = c_kdays σ := rfl
theorem gs_c_kdays_last (σ : SC) (v : (Nat → Int32)) : c_kdays (sc_last σ v) = c_kdays σ := rfl
theorem gs_c_kdays_denied (σ : SC) (v : (Nat → Int32)) : c_kdays (sc_denied σ v) = c_kdays σ := rfl
theorem gs_c_kdays_whom (σ : SC) (v : (Nat → Int32)) : c_kdays (sc_whom σ v) = c_kdays σ := rfl
theorem gs_c_kdays_wday (σ : SC) (v : (Nat → Int32)) : c_kdays (sc_wday σ v) = c_kdays σ := rfl
theorem gs_c_kdays_asked (σ : SC) (v : Int32) : c_kdays (sc_asked σ v) = c_kdays σ := rfl
theorem gs_c_kdays_days (σ : SC) (v : Int32) : c_kdays (sc_days σ v) = c_kdays σ := rfl
theorem gs_c_kdays_changes (σ : SC) (v : Int32) : c_kdays (sc_changes σ v) = c_kdays σ := rfl
theorem gs_c_kdays_knexts (σ : SC) (v : (Nat → Int32)) : c_kdays (sc_knexts σ v) = c_kdays σ := rfl
theorem gs_c_kdays_klsts (σ : SC) (v : (Nat → Int32)) : c_kdays (sc_klsts σ v) = c_kdays σ := rfl
theorem gs_c_kdays_kheard (σ : SC) (v : (Nat → Int32)) : c_kdays (sc_kheard σ v) = c_kdays σ := rfl
theorem gs_c_kdays_klast (σ : SC) (v : (Nat → Int32)) : c_kdays (sc_klast σ v) = c_kdays σ := rfl
theorem gs_c_kdays_kdenied (σ : SC) (v : (Nat → Int32)) : c_kdays (sc_kdenied σ v) = c_kdays σ := rfl
theorem gs_c_kdays_kwhom (σ : SC) (v : (Nat → Int32)) : c_kdays (sc_kwhom σ v) = c_kdays σ := rfl
theorem gs_c_kdays_kwday (σ : SC) (v : (Nat → Int32)) : c_kdays (sc_kwday σ v) = c_kdays σ := rfl
theorem gs_c_kdays_kasked (σ : SC) (v : Int32) : c_kdays (sc_kasked σ v) = c_kdays σ := rfl
theorem gs_c_kdays_kchanges (σ : SC) (v : Int32) : c_kdays (sc_kchanges σ v) = c_kdays σ := rfl
theorem gs_c_kdays_left (σ : SC) (v : (Nat → Int32)) : c_kdays (sc_left σ v) = c_kdays σ := rfl
theorem gs_c_kdays_hasImage (σ : SC) (v : Int32) : c_kdays (sc_hasImage σ v) = c_kdays σ := rfl
theorem gs_c_kdays_readings (σ : SC) (v : Int32) : c_kdays (sc_readings σ v) = c_kdays σ := rfl
theorem gs_c_kchanges_kchanges (σ : SC) (v : Int32) : c_kchanges (sc_kchanges σ v) = v := rfl
theorem ss_c_kchanges (σ : SC) (v w : Int32) : sc_kchanges (sc_kchanges σ v) w = sc_kchanges σ w := rfl
theorem gs_c_kchanges_codes (σ : SC) (v : (Nat → Int32)) : c_kchanges (sc_codes σ v) = c_kchanges σ := rfl
theorem gs_c_kchanges_plen (σ : SC) (v : Int32) : c_kchanges (sc_plen σ v) = c_kchanges σ := rfl
theorem gs_c_kchanges_kinds (σ : SC) (v : (Nat → Int32)) : c_kchanges (sc_kinds σ v) = c_kchanges σ := rfl
theorem gs_c_kchanges_people (σ : SC) (v : Int32) : c_kchanges (sc_people σ v) = c_kchanges σ := rfl
theorem gs_c_kchanges_river (σ : SC) (v : Int32) : c_kchanges (sc_river σ v) = c_kchanges σ := rfl
theorem gs_c_kchanges_nexts (σ : SC) (v : (Nat → Int32)) : c_kchanges (sc_nexts σ v) = c_kchanges σ := rfl
theorem gs_c_kchanges_lsts (σ : SC) (v : (Nat → Int32)) : c_kchanges (sc_lsts σ v) = c_kchanges σ := rfl
theorem gs_c_kchanges_heard (σ : SC) (v : (Nat → Int32)) : c_kchanges (sc_heard σ v) = c_kchanges σ := rfl
theorem gs_c_kchanges_last (σ : SC) (v : (Nat → Int32)) : c_kchanges (sc_last σ v) = c_kchanges σ := rfl
theorem gs_c_kchanges_denied (σ : SC) (v : (Nat → Int32)) : c_kchanges (sc_denied σ v) = c_kchanges σ := rfl
theorem gs_c_kchanges_whom (σ : SC) (v : (Nat → Int32)) : c_kchanges (sc_whom σ v) = c_kchanges σ := rfl
theorem gs_c_kchanges_wday (σ : SC) (v : (Nat → Int32)) : c_kchanges (sc_wday σ v) = c_kchanges σ := rfl
theorem gs_c_kchanges_asked (σ : SC) (v : Int32) : c_kchanges (sc_asked σ v) = c_kchanges σ := rfl
theorem gs_c_kchanges_days (σ : SC) (v : Int32) : c_kchanges (sc_days σ v) = c_kchanges σ := rfl
theorem gs_c_kchanges_changes (σ : SC) (v : Int32) : c_kchanges (sc_changes σ v) = c_kchanges σ := rfl
theorem gs_c_kchanges_knexts (σ : SC) (v : (Nat → Int32)) : c_kchanges (sc_knexts σ v) = c_kchanges σ := rfl
theorem gs_c_kchanges_klsts (σ : SC) (v : (Nat → Int32)) : c_kchanges (sc_klsts σ v) = c_kchanges σ := rfl
theorem gs_c_kchanges_kheard (σ : SC) (v : (Nat → Int32)) : c_kchanges (sc_kheard σ v) = c_kchanges σ := rfl
theorem gs_c_kchanges_klast (σ : SC) (v : (Nat → Int32)) : c_kchanges (sc_klast σ v) = c_kchanges σ := rfl
theorem gs_c_kchanges_kdenied (σ : SC) (v : (Nat → Int32)) : c_kchanges (sc_kdenied σ v) = c_kchanges σ := rfl
theorem gs_c_kchanges_kwhom (σ : SC) (v : (Nat → Int32)) : c_kchanges (sc_kwhom σ v) = c_kchanges σ := rfl
theorem gs_c_kchanges_kwday (σ : SC) (v : (Nat → Int32)) : c_kchanges (sc_kwday σ v) = c_kchanges σ := rfl
theorem gs_c_kchanges_kasked (σ : SC) (v : Int32) : c_kchanges (sc_kasked σ v) = c_kchanges σ := rfl
theorem gs_c_kchanges_kdays (σ : SC) (v : Int32) : c_kchanges (sc_kdays σ v) = c_kchanges σ := rfl
theorem gs_c_kchanges_left (σ : SC) (v : (Nat → Int32)) : c_kchanges (sc_left σ v) = c_kchanges σ := rfl
theorem gs_c_kchanges_hasImage (σ : SC) (v : Int32) : c_kchanges (sc_hasImage σ v) = c_kchanges σ := rfl
theorem gs_c_kchanges_readings (σ : SC) (v : Int32) : c_kchanges (sc_readings σ v) = c_kchanges σ := rfl
theorem gs_c_left_left (σ : SC) (v : (Nat → Int32)) : c_left (sc_left σ v) = v := rfl
theorem ss_c_left (σ : SC) (v w : (Nat → Int32)) : sc_left (sc_left σ v) w = sc_left σ w := rfl
theorem gs_c_left_codes (σ : SC) (v : (Nat → Int32)) : c_left (sc_codes σ v) = c_left σ := rfl
theorem gs_c_left_plen (σ : SC) (v : Int32) : c_left (sc_plen σ v) = c_left σ := rfl
theorem gs_c_left_kinds (σ : SC) (v : (Nat → Int32)) : c_left (sc_kinds σ v) = c_left σ := rfl
theorem gs_c_left_people (σ : SC) (v : Int32) : c_left (sc_people σ v) = c_left σ := rfl
theorem gs_c_left_river (σ : SC) (v : Int32) : c_left (sc_river σ v) = c_left σ := rfl
theorem gs_c_left_nexts (σ : SC) (v : (Nat → Int32)) : c_left (sc_nexts σ v) = c_left σ := rfl
theorem gs_c_left_lsts (σ : SC) (v : (Nat → Int32)) : c_left (sc_lsts σ v) = c_left σ := rfl
theorem gs_c_left_heard (σ : SC) (v : (Nat → Int32)) : c_left (sc_heard σ v) = c_left σ := rfl
theorem gs_c_left_last (σ : SC) (v : (Nat → Int32)) : c_left (sc_last σ v) = c_left σ := rfl
theorem gs_c_left_denied (σ : SC) (v : (Nat → Int32)) : c_left (sc_denied σ v) = c_left σ := rfl
theorem gs_c_left_whom (σ : SC) (v : (Nat → Int32)) : c_left (sc_whom σ v) = c_left σ := rfl
theorem gs_c_left_wday (σ : SC) (v : (Nat → Int32)) : c_left (sc_wday σ v) = c_left σ := rfl
theorem gs_c_left_asked (σ : SC) (v : Int32) : c_left (sc_asked σ v) = c_left σ := rfl
theorem gs_c_left_days (σ : SC) (v : Int32) : c_left (sc_days σ v) = c_left σ := rfl
theorem gs_c_left_changes (σ : SC) (v : Int32) : c_left (sc_changes σ v) = c_left σ := rfl
theorem gs_c_left_knexts (σ : SC) (v : (Nat → Int32)) : c_left (sc_knexts σ v) = c_left σ := rfl
theorem gs_c_left_klsts (σ : SC) (v : (Nat → Int32)) : c_left (sc_klsts σ v) = c_left σ := rfl
theorem gs_c_left_kheard (σ : SC) (v : (Nat → Int32)) : c_left (sc_kheard σ v) = c_left σ := rfl
theorem gs_c_left_klast (σ : SC) (v : (Nat → Int32)) : c_left (sc_klast σ v) = c_left σ := rfl
theorem gs_c_left_kdenied (σ : SC) (v : (Nat → Int32)) : c_left (sc_kdenied σ v) = c_left σ := rfl
theorem gs_c_left_kwhom (σ : SC) (v : (Nat → Int32)) : c_left (sc_kwhom σ v) = c_left σ := rfl
theorem gs_c_left_kwday (σ : SC) (v : (Nat → Int32)) : c_left (sc_kwday σ v) = c_left σ := rfl
theorem gs_c_left_kasked (σ : SC) (v : Int32) : c_left (sc_kasked σ v) = c_left σ := rfl
theorem gs_c_left_kdays (σ : SC) (v : Int32) : c_left (sc_kdays σ v) = c_left σ := rfl
theorem gs_c_left_kchanges (σ : SC) (v : Int32) : c_left (sc_kchanges σ v) = c_left σ := rfl
theorem gs_c_left_hasImage (σ : SC) (v : Int32) : c_left (sc_hasImage σ v) = c_left σ := rfl
theorem gs_c_left_readings (σ : SC) (v : Int32) : c_left (sc_readings σ v) = c_left σ := rfl
theorem gs_c_hasImage_hasImage (σ : SC) (v : Int32) : c_hasImage (sc_hasImage σ v) = v := rfl
theorem ss_c_hasImage (σ : SC) (v w : Int32) : sc_hasImage (sc_hasImage σ v) w = sc_hasImage σ w := rfl
theorem gs_c_hasImage_codes (σ : SC) (v : (Nat → Int32)) : c_hasImage (sc_codes σ v) = c_hasImage σ := rfl
theorem gs_c_hasImage_plen (σ : SC) (v : Int32) : c_hasImage (sc_plen σ v) = c_hasImage σ := rfl
theorem gs_c_hasImage_kinds (σ : SC) (v : (Nat → Int32)) : c_hasImage (sc_kinds σ v) = c_hasImage σ := rfl
theorem gs_c_hasImage_people (σ : SC) (v : Int32) : c_hasImage (sc_people σ v) = c_hasImage σ := rfl
theorem gs_c_hasImage_river (σ : SC) (v : Int32) : c_hasImage (sc_river σ v) = c_hasImage σ := rfl
theorem gs_c_hasImage_nexts (σ : SC) (v : (Nat → Int32)) : c_hasImage (sc_nexts σ v) = c_hasImage σ := rfl
theorem gs_c_hasImage_lsts (σ : SC) (v : (Nat → Int32)) : c_hasImage (sc_lsts σ v) = c_hasImage σ := rfl
theorem gs_c_hasImage_heard (σ : SC) (v : (Nat → Int32)) : c_hasImage (sc_heard σ v) = c_hasImage σ := rfl
theorem gs_c_hasImage_last (σ : SC) (v : (Nat → Int32)) : c_hasImage (sc_last σ v) = c_hasImage σ := rfl
theorem gs_c_hasImage_denied (σ : SC) (v : (Nat → Int32)) : c_hasImage (sc_denied σ v) = c_hasImage σ := rfl
theorem gs_c_hasImage_whom (σ : SC) (v : (Nat → Int32)) : c_hasImage (sc_whom σ v) = c_hasImage σ := rfl
theorem gs_c_hasImage_wday (σ : SC) (v : (Nat → Int32)) : c_hasImage (sc_wday σ v) = c_hasImage σ := rfl
theorem gs_c_hasImage_asked (σ : SC) (v : Int32) : c_hasImage (sc_asked σ v) = c_hasImage σ := rfl
theorem gs_c_hasImage_days (σ : SC) (v : Int32) : c_hasImage (sc_days σ v) = c_hasImage σ := rfl
theorem gs_c_hasImage_changes (σ : SC) (v : Int32) : c_hasImage (sc_changes σ v) = c_hasImage σ := rfl
theorem gs_c_hasImage_knexts (σ : SC) (v : (Nat → Int32)) : c_hasImage (sc_knexts σ v) = c_hasImage σ := rfl
theorem gs_c_hasImage_klsts (σ : SC) (v : (Nat → Int32)) : c_hasImage (sc_klsts σ v) = c_hasImage σ := rfl
theorem gs_c_hasImage_kheard (σ : SC) (v : (Nat → Int32)) : c_hasImage (sc_kheard σ v) = c_hasImage σ := rfl
theorem gs_c_hasImage_klast (σ : SC) (v : (Nat → Int32)) : c_hasImage (sc_klast σ v) = c_hasImage σ := rfl
theorem gs_c_hasImage_kdenied (σ : SC) (v : (Nat → Int32)) : c_hasImage (sc_kdenied σ v) = c_hasImage σ := rfl
theorem gs_c_hasImage_kwhom (σ : SC) (v : (Nat → Int32)) : c_hasImage (sc_kwhom σ v) = c_hasImage σ := rfl
theorem gs_c_hasImage_kwday (σ : SC) (v : (Nat → Int32)) : c_hasImage (sc_kwday σ v) = c_hasImage σ := rfl
theorem gs_c_hasImage_kasked (σ : SC) (v : Int32) : c_hasImage (sc_kasked σ v) = c_hasImage σ := rfl
theorem gs_c_hasImage_kdays (σ : SC) (v : Int32) : c_hasImage (sc_kdays σ v) = c_hasImage σ := rfl
theorem gs_c_hasImage_kchanges (σ : SC) (v : Int32) : c_hasImage (sc_kchanges σ v) = c_hasImage σ := rfl
theorem gs_c_hasImage_left (σ : SC) (v : (Nat → Int32)) : c_hasImage (sc_left σ v) = c_hasImage σ := rfl
theorem gs_c_hasImage_readings (σ : SC) (v : Int32) : c_hasImage (sc_readings σ v) = c_hasImage σ := rfl
theorem gs_c_readings_readings (σ : SC) (v : Int32) : c_readings (sc_readings σ v) = v := rfl
theorem ss_c_readings (σ : SC) (v w : Int32) : sc_readings (sc_readings σ v) w = sc_readings σ w := rfl
theorem gs_c_readings_codes (σ : SC) (v : (Nat → Int32)) : c_readings (sc_codes σ v) = c_readings σ := rfl
theorem gs_c_readings_plen (σ : SC) (v : Int32) : c_readings (sc_plen σ v) = c_readings σ := rfl
theorem gs_c_readings_kinds (σ : SC) (v : (Nat → Int32)) : c_readings (sc_kinds σ v) = c_readings σ := rfl
theorem gs_c_readings_people (σ : SC) (v : Int32) : c_readings (sc_people σ v) = c_readings σ := rfl
theorem gs_c_readings_river (σ : SC) (v : Int32) : c_readings (sc_river σ v) = c_readings σ := rfl
theorem gs_c_readings_nexts (σ : SC) (v : (Nat → Int32)) : c_readings (sc_nexts σ v) = c_readings σ := rfl
theorem gs_c_readings_lsts (σ : SC) (v : (Nat → Int32)) : c_readings (sc_lsts σ v) = c_readings σ := rfl
theorem gs_c_readings_heard (σ : SC) (v : (Nat → Int32)) : c_readings (sc_heard σ v) = c_readings σ := rfl
theorem gs_c_readings_last (σ : SC) (v : (Nat → Int32)) : c_readings (sc_last σ v) = c_readings σ := rfl
theorem gs_c_readings_denied (σ : SC) (v : (Nat → Int32)) : c_readings (sc_denied σ v) = c_readings σ := rfl
theorem gs_c_readings_whom (σ : SC) (v : (Nat → Int32)) : c_readings (sc_whom σ v) = c_readings σ := rfl
theorem gs_c_readings_wday (σ : SC) (v : (Nat → Int32)) : c_readings (sc_wday σ v) = c_readings σ := rfl
theorem gs_c_readings_asked (σ : SC) (v : Int32) : c_readings (sc_asked σ v) = c_readings σ := rfl
theorem gs_c_readings_days (σ : SC) (v : Int32) : c_readings (sc_days σ v) = c_readings σ := rfl
theorem gs_c_readings_changes (σ : SC) (v : Int32) : c_readings (sc_changes σ v) = c_readings σ := rfl
theorem gs_c_readings_knexts (σ : SC) (v : (Nat → Int32)) : c_readings (sc_knexts σ v) = c_readings σ := rfl
theorem gs_c_readings_klsts (σ : SC) (v : (Nat → Int32)) : c_readings (sc_klsts σ v) = c_readings σ := rfl
theorem gs_c_readings_kheard (σ : SC) (v : (Nat → Int32)) : c_readings (sc_kheard σ v) = c_readings σ := rfl
theorem gs_c_readings_klast (σ : SC) (v : (Nat → Int32)) : c_readings (sc_klast σ v) = c_readings σ := rfl
theorem gs_c_readings_kdenied (σ : SC) (v : (Nat → Int32)) : c_readings (sc_kdenied σ v) = c_readings σ := rfl
theorem gs_c_readings_kwhom (σ : SC) (v : (Nat → Int32)) : c_readings (sc_kwhom σ v) = c_readings σ := rfl
theorem gs_c_readings_kwday (σ : SC) (v : (Nat → Int32)) : c_readings (sc_kwday σ v) = c_readings σ := rfl
theorem gs_c_readings_kasked (σ : SC) (v : Int32) : c_readings (sc_kasked σ v) = c_readings σ := rfl
theorem gs_c_readings_kdays (σ : SC) (v : Int32) : c_readings (sc_kdays σ v) = c_readings σ := rfl
theorem gs_c_readings_kchanges (σ : SC) (v : Int32) : c_readings (sc_kchanges σ v) = c_readings σ := rfl
theorem gs_c_readings_left (σ : SC) (v : (Nat → Int32)) : c_readings (sc_left σ v) = c_readings σ := rfl
theorem gs_c_readings_hasImage (σ : SC) (v : Int32) : c_readings (sc_hasImage σ v) = c_readings σ := rfl
theorem gs_m_page_page (σ : SM) (v : (Nat → Int32)) : m_page (sm_page σ v) = v := rfl
theorem ss_m_page (σ : SM) (v w : (Nat → Int32)) : sm_page (sm_page σ v) w = sm_page σ w := rfl
theorem gs_m_page_pageMany (σ : SM) (v : Int32) : m_page (sm_pageMany σ v) = m_page σ := rfl
theorem gs_m_page_endAt (σ : SM) (v : Int32) : m_page (sm_endAt σ v) = m_page σ := rfl
theorem gs_m_page_people (σ : SM) (v : Int32) : m_page (sm_people σ v) = m_page σ := rfl
theorem gs_m_page_river (σ : SM) (v : Int32) : m_page (sm_river σ v) = m_page σ := rfl
theorem gs_m_page_days (σ : SM) (v : Int32) : m_page (sm_days σ v) = m_page σ := rfl
theorem gs_m_page_changes (σ : SM) (v : Int32) : m_page (sm_changes σ v) = m_page σ := rfl
theorem gs_m_page_hillsRead (σ : SM) (v : Int32) : m_page (sm_hillsRead σ v) = m_page σ := rfl
theorem gs_m_page_rows (σ : SM) (v : (Nat → Int32)) : m_page (sm_rows σ v) = m_page σ := rfl
theorem gs_m_page_tunnels (σ : SM) (v : (Nat → Int32)) : m_page (sm_tunnels σ v) = m_page σ := rfl
theorem gs_m_page_askedMany (σ : SM) (v : Int32) : m_page (sm_askedMany σ v) = m_page σ := rfl
theorem gs_m_page_askeds (σ : SM) (v : (Nat → Int32)) : m_page (sm_askeds σ v) = m_page σ := rfl
theorem gs_m_page_parts (σ : SM) (v : (Nat → Int32)) : m_page (sm_parts σ v) = m_page σ := rfl
theorem gs_m_page_seedNow (σ : SM) (v : Int32) : m_page (sm_seedNow σ v) = m_page σ := rfl
theorem gs_m_page_keptHill (σ : SM) (v : Int32) : m_page (sm_keptHill σ v) = m_page σ := rfl
theorem gs_m_page_keptDays (σ : SM) (v : Int32) : m_page (sm_keptDays σ v) = m_page σ := rfl
theorem gs_m_page_keptChanges (σ : SM) (v : Int32) : m_page (sm_keptChanges σ v) = m_page σ := rfl
theorem gs_m_page_keptAsked (σ : SM) (v : Int32) : m_page (sm_keptAsked σ v) = m_page σ := rfl
theorem gs_m_page_keptRows (σ : SM) (v : (Nat → Int32)) : m_page (sm_keptRows σ v) = m_page σ := rfl
theorem gs_m_page_keptTunnels (σ : SM) (v : (Nat → Int32)) : m_page (sm_keptTunnels σ v) = m_page σ := rfl
theorem gs_m_page_keptAskeds (σ : SM) (v : (Nat → Int32)) : m_page (sm_keptAskeds σ v) = m_page σ := rfl
theorem gs_m_page_hash (σ : SM) (v : Int64) : m_page (sm_hash σ v) = m_page σ := rfl
theorem gs_m_pageMany_pageMany (σ : SM) (v : Int32) : m_pageMany (sm_pageMany σ v) = v := rfl
theorem ss_m_pageMany (σ : SM) (v w : Int32) : sm_pageMany (sm_pageMany σ v) w = sm_pageMany σ w := rfl
theorem gs_m_pageMany_page (σ : SM) (v : (Nat → Int32)) : m_pageMany (sm_page σ v) = m_pageMany σ := rfl
theorem gs_m_pageMany_endAt (σ : SM) (v : Int32) : m_pageMany (sm_endAt σ v) = m_pageMany σ := rfl
theorem gs_m_pageMany_people (σ : SM) (v : Int32) : m_pageMany (sm_people σ v) = m_pageMany σ := rfl
theorem gs_m_pageMany_river (σ : SM) (v : Int32) : m_pageMany (sm_river σ v) = m_pageMany σ := rfl
theorem gs_m_pageMany_days (σ : SM) (v : Int32) : m_pageMany (sm_days σ v) = m_pageMany σ := rfl
theorem gs_m_pageMany_changes (σ : SM) (v : Int32) : m_pageMany (sm_changes σ v) = m_pageMany σ := rfl
theorem gs_m_pageMany_hillsRead (σ : SM) (v : Int32) : m_pageMany (sm_hillsRead σ v) = m_pageMany σ := rfl
theorem gs_m_pageMany_rows (σ : SM) (v : (Nat → Int32)) : m_pageMany (sm_rows σ v) = m_pageMany σ := rfl
theorem gs_m_pageMany_tunnels (σ : SM) (v : (Nat → Int32)) : m_pageMany (sm_tunnels σ v) = m_pageMany σ := rfl
theorem gs_m_pageMany_askedMany (σ : SM) (v : Int32) : m_pageMany (sm_askedMany σ v) = m_pageMany σ := rfl
theorem gs_m_pageMany_askeds (σ : SM) (v : (Nat → Int32)) : m_pageMany (sm_askeds σ v) = m_pageMany σ := rfl
theorem gs_m_pageMany_parts (σ : SM) (v : (Nat → Int32)) : m_pageMany (sm_parts σ v) = m_pageMany σ := rfl
theorem gs_m_pageMany_seedNow (σ : SM) (v : Int32) : m_pageMany (sm_seedNow σ v) = m_pageMany σ := rfl
theorem gs_m_pageMany_keptHill (σ : SM) (v : Int32) : m_pageMany (sm_keptHill σ v) = m_pageMany σ := rfl
theorem gs_m_pageMany_keptDays (σ : SM) (v : Int32) : m_pageMany (sm_keptDays σ v) = m_pageMany σ := rfl
theorem gs_m_pageMany_keptChanges (σ : SM) (v : Int32) : m_pageMany (sm_keptChanges σ v) = m_pageMany σ := rfl
theorem gs_m_pageMany_keptAsked (σ : SM) (v : Int32) : m_pageMany (sm_keptAsked σ v) = m_pageMany σ := rfl
theorem gs_m_pageMany_keptRows (σ : SM) (v : (Nat → Int32)) : m_pageMany (sm_keptRows σ v) = m_pageMany σ := rfl
theorem gs_m_pageMany_keptTunnels (σ : SM) (v : (Nat → Int32)) : m_pageMany (sm_keptTunnels σ v) = m_pageMany σ := rfl
theorem gs_m_pageMany_keptAskeds (σ : SM) (v : (Nat → Int32)) : m_pageMany (sm_keptAskeds σ v) = m_pageMany σ := rfl
theorem gs_m_pageMany_hash (σ : SM) (v : Int64) : m_pageMany (sm_hash σ v) = m_pageMany σ := rfl
theorem gs_m_endAt_endAt (σ : SM) (v : Int32) : m_endAt (sm_endAt σ v) = v := rfl
theorem ss_m_endAt (σ : SM) (v w : Int32) : sm_endAt (sm_endAt σ v) w = sm_endAt σ w := rfl
theorem gs_m_endAt_page (σ : SM) (v : (Nat → Int32)) : m_endAt (sm_page σ v) = m_endAt σ := rfl
theorem gs_m_endAt_pageMany (σ : SM) (v : Int32) : m_endAt (sm_pageMany σ v) = m_endAt σ := rfl
theorem gs_m_endAt_people (σ : SM) (v : Int32) : m_endAt (sm_people σ v) = m_endAt σ := rfl
theorem gs_m_endAt_river (σ : SM) (v : Int32) : m_endAt (sm_river σ v) = m_endAt σ := rfl
theorem gs_m_endAt_days (σ : SM) (v : Int32) : m_endAt (sm_days σ v) = m_endAt σ := rfl
theorem gs_m_endAt_changes (σ : SM) (v : Int32) : m_endAt (sm_changes σ v) = m_endAt σ := rfl
theorem gs_m_endAt_hillsRead (σ : SM) (v : Int32) : m_endAt (sm_hillsRead σ v) = m_endAt σ := rfl
theorem gs_m_endAt_rows (σ : SM) (v : (Nat → Int32)) : m_endAt (sm_rows σ v) = m_endAt σ := rfl
theorem gs_m_endAt_tunnels (σ : SM) (v : (Nat → Int32)) : m_endAt (sm_tunnels σ v) = m_endAt σ := rfl
theorem gs_m_endAt_askedMany (σ : SM) (v : Int32) : m_endAt (sm_askedMany σ v) = m_endAt σ := rfl
theorem gs_m_endAt_askeds (σ : SM) (v : (Nat → Int32)) : m_endAt (sm_askeds σ v) = m_endAt σ := rfl
theorem gs_m_endAt_parts (σ : SM) (v : (Nat → Int32)) : m_endAt (sm_parts σ v) = m_endAt σ := rfl
theorem gs_m_endAt_seedNow (σ : SM) (v : Int32) : m_endAt (sm_seedNow σ v) = m_endAt σ := rfl
theorem gs_m_endAt_keptHill (σ : SM) (v : Int32) : m_endAt (sm_keptHill σ v) = m_endAt σ := rfl
theorem gs_m_endAt_keptDays (σ : SM) (v : Int32) : m_endAt (sm_keptDays σ v) = m_endAt σ := rfl
theorem gs_m_endAt_keptChanges (σ : SM) (v : Int32) : m_endAt (sm_keptChanges σ v) = m_endAt σ := rfl
theorem gs_m_endAt_keptAsked (σ : SM) (v : Int32) : m_endAt (sm_keptAsked σ v) = m_endAt σ := rfl
theorem gs_m_endAt_keptRows (σ : SM) (v : (Nat → Int32)) : m_endAt (sm_keptRows σ v) = m_endAt σ := rfl
theorem gs_m_endAt_keptTunnels (σ : SM) (v : (Nat → Int32)) : m_endAt (sm_keptTunnels σ v) = m_endAt σ := rfl
theorem gs_m_endAt_keptAskeds (σ : SM) (v : (Nat → Int32)) : m_endAt (sm_keptAskeds σ v) = m_endAt σ := rfl
theorem gs_m_endAt_hash (σ : SM) (v : Int64) : m_endAt (sm_hash σ v) = m_endAt σ := rfl
theorem gs_m_people_people (σ : SM) (v : Int32) : m_people (sm_people σ v) = v := rfl
theorem ss_m_people (σ : SM) (v w : Int32) : sm_people (sm_people σ v) w = sm_people σ w := rfl
theorem gs_m_people_page (σ : SM) (v : (Nat → Int32)) : m_people (sm_page σ v) = m_people σ := rfl
theorem gs_m_people_pageMany (σ : SM) (v : Int32) : m_people (sm_pageMany σ v) = m_people σ := rfl
theorem gs_m_people_endAt (σ : SM) (v : Int32) : m_people (sm_endAt σ v) = m_people σ := rfl
theorem gs_m_people_river (σ : SM) (v : Int32) : m_people (sm_river σ v) = m_people σ := rfl
theorem gs_m_people_days (σ : SM) (v : Int32) : m_people (sm_days σ v) = m_people σ := rfl
theorem gs_m_people_changes (σ : SM) (v : Int32) : m_people (sm_changes σ v) = m_people σ := rfl
theorem gs_m_people_hillsRead (σ : SM) (v : Int32) : m_people (sm_hillsRead σ v) = m_people σ := rfl
theorem gs_m_people_rows (σ : SM) (v : (Nat → Int32)) : m_people (sm_rows σ v) = m_people σ := rfl
theorem gs_m_people_tunnels (σ : SM) (v : (Nat → Int32)) : m_people (sm_tunnels σ v) = m_people σ := rfl
theorem gs_m_people_askedMany (σ : SM) (v : Int32) : m_people (sm_askedMany σ v) = m_people σ := rfl
theorem gs_m_people_askeds (σ : SM) (v : (Nat → Int32)) : m_people (sm_askeds σ v) = m_people σ := rfl
theorem gs_m_people_parts (σ : SM) (v : (Nat → Int32)) : m_people (sm_parts σ v) = m_people σ := rfl
theorem gs_m_people_seedNow (σ : SM) (v : Int32) : m_people (sm_seedNow σ v) = m_people σ := rfl
theorem gs_m_people_keptHill (σ : SM) (v : Int32) : m_people (sm_keptHill σ v) = m_people σ := rfl
theorem gs_m_people_keptDays (σ : SM) (v : Int32) : m_people (sm_keptDays σ v) = m_people σ := rfl
theorem gs_m_people_keptChanges (σ : SM) (v : Int32) : m_people (sm_keptChanges σ v) = m_people σ := rfl
theorem gs_m_people_keptAsked (σ : SM) (v : Int32) : m_people (sm_keptAsked σ v) = m_people σ := rfl
theorem gs_m_people_keptRows (σ : SM) (v : (Nat → Int32)) : m_people (sm_keptRows σ v) = m_people σ := rfl
theorem gs_m_people_keptTunnels (σ : SM) (v : (Nat → Int32)) : m_people (sm_keptTunnels σ v) = m_people σ := rfl
theorem gs_m_people_keptAskeds (σ : SM) (v : (Nat → Int32)) : m_people (sm_keptAskeds σ v) = m_people σ := rfl
theorem gs_m_people_hash (σ : SM) (v : Int64) : m_people (sm_hash σ v) = m_people σ := rfl
theorem gs_m_river_river (σ : SM) (v : Int32) : m_river (sm_river σ v) = v := rfl
theorem ss_m_river (σ : SM) (v w : Int32) : sm_river (sm_river σ v) w = sm_river σ w := rfl
theorem gs_m_river_page (σ : SM) (v : (Nat → Int32)) : m_river (sm_page σ v) = m_river σ := rfl
theorem gs_m_river_pageMany (σ : SM) (v : Int32) : m_river (sm_pageMany σ v) = m_river σ := rfl
theorem gs_m_river_endAt (σ : SM) (v : Int32) : m_river (sm_endAt σ v) = m_river σ := rfl
theorem gs_m_river_people (σ : SM) (v : Int32) : m_river (sm_people σ v) = m_river σ := rfl
theorem gs_m_river_days (σ : SM) (v : Int32) : m_river (sm_days σ v) = m_river σ := rfl
theorem gs_m_river_changes (σ : SM) (v : Int32) : m_river (sm_changes σ v) = m_river σ := rfl
theorem gs_m_river_hillsRead (σ : SM) (v : Int32) : m_river (sm_hillsRead σ v) = m_river σ := rfl
theorem gs_m_river_rows (σ : SM) (v : (Nat → Int32)) : m_river (sm_rows σ v) = m_river σ := rfl
theorem gs_m_river_tunnels (σ : SM) (v : (Nat → Int32)) : m_river (sm_tunnels σ v) = m_river σ := rfl
theorem gs_m_river_askedMany (σ : SM) (v : Int32) : m_river (sm_askedMany σ v) = m_river σ := rfl
theorem gs_m_river_askeds (σ : SM) (v : (Nat → Int32)) : m_river (sm_askeds σ v) = m_river σ := rfl
theorem gs_m_river_parts (σ : SM) (v : (Nat → Int32)) : m_river (sm_parts σ v) = m_river σ := rfl
theorem gs_m_river_seedNow (σ : SM) (v : Int32) : m_river (sm_seedNow σ v) = m_river σ := rfl
theorem gs_m_river_keptHill (σ : SM) (v : Int32) : m_river (sm_keptHill σ v) = m_river σ := rfl
theorem gs_m_river_keptDays (σ : SM) (v : Int32) : m_river (sm_keptDays σ v) = m_river σ := rfl
theorem gs_m_river_keptChanges (σ : SM) (v : Int32) : m_river (sm_keptChanges σ v) = m_river σ := rfl
theorem gs_m_river_keptAsked (σ : SM) (v : Int32) : m_river (sm_keptAsked σ v) = m_river σ := rfl
theorem gs_m_river_keptRows (σ : SM) (v : (Nat → Int32)) : m_river (sm_keptRows σ v) = m_river σ := rfl
theorem gs_m_river_keptTunnels (σ : SM) (v : (Nat → Int32)) : m_river (sm_keptTunnels σ v) = m_river σ := rfl
theorem gs_m_river_keptAskeds (σ : SM) (v : (Nat → Int32)) : m_river (sm_keptAskeds σ v) = m_river σ := rfl
theorem gs_m_river_hash (σ : SM) (v : Int64) : m_river (sm_hash σ v) = m_river σ := rfl
theorem gs_m_days_days (σ : SM) (v : Int32) : m_days (sm_days σ v) = v := rfl
theorem ss_m_days (σ : SM) (v w : Int32) : sm_days (sm_days σ v) w = sm_days σ w := rfl
theorem gs_m_days_page (σ : SM) (v : (Nat → Int32)) : m_days (sm_page σ v) = m_days σ := rfl
theorem gs_m_days_pageMany (σ : SM) (v : Int32) : m_days (sm_pageMany σ v) = m_days σ := rfl
theorem gs_m_days_endAt (σ : SM) (v : Int32) : m_days (sm_endAt σ v) = m_days σ := rfl
theorem gs_m_days_people (σ : SM) (v : Int32) : m_days (sm_people σ v) = m_days σ := rfl
theorem gs_m_days_river (σ : SM) (v : Int32) : m_days (sm_river σ v) = m_days σ := rfl
theorem gs_m_days_changes (σ : SM) (v : Int32) : m_days (sm_changes σ v) = m_days σ := rfl
theorem gs_m_days_hillsRead (σ : SM) (v : Int32) : m_days (sm_hillsRead σ v) = m_days σ := rfl
theorem gs_m_days_rows (σ : SM) (v : (Nat → Int32)) : m_days (sm_rows σ v) = m_days σ := rfl
theorem gs_m_days_tunnels (σ : SM) (v : (Nat → Int32)) : m_days (sm_tunnels σ v) = m_days σ := rfl
theorem gs_m_days_askedMany (σ : SM) (v : Int32) : m_days (sm_askedMany σ v) = m_days σ := rfl
theorem gs_m_days_askeds (σ : SM) (v : (Nat → Int32)) : m_days (sm_askeds σ v) = m_days σ := rfl
theorem gs_m_days_parts (σ : SM) (v : (Nat → Int32)) : m_days (sm_parts σ v) = m_days σ := rfl
theorem gs_m_days_seedNow (σ : SM) (v : Int32) : m_days (sm_seedNow σ v) = m_days σ := rfl
theorem gs_m_days_keptHill (σ : SM) (v : Int32) : m_days (sm_keptHill σ v) = m_days σ := rfl
theorem gs_m_days_keptDays (σ : SM) (v : Int32) : m_days (sm_keptDays σ v) = m_days σ := rfl
theorem gs_m_days_keptChanges (σ : SM) (v : Int32) : m_days (sm_keptChanges σ v) = m_days σ := rfl
theorem gs_m_days_keptAsked (σ : SM) (v : Int32) : m_days (sm_keptAsked σ v) = m_days σ := rfl
theorem gs_m_days_keptRows (σ : SM) (v : (Nat → Int32)) : m_days (sm_keptRows σ v) = m_days σ := rfl
theorem gs_m_days_keptTunnels (σ : SM) (v : (Nat → Int32)) : m_days (sm_keptTunnels σ v) = m_days σ := rfl
theorem gs_m_days_keptAskeds (σ : SM) (v : (Nat → Int32)) : m_days (sm_keptAskeds σ v) = m_days σ := rfl
theorem gs_m_days_hash (σ : SM) (v : Int64) : m_days (sm_hash σ v) = m_days σ := rfl
theorem gs_m_changes_changes (σ : SM) (v : Int32) : m_changes (sm_changes σ v) = v := rfl
theorem ss_m_changes (σ : SM) (v w : Int32) : sm_changes (sm_changes σ v) w = sm_changes σ w := rfl
theorem gs_m_changes_page (σ : SM) (v : (Nat → Int32)) : m_changes (sm_page σ v) = m_changes σ := rfl
theorem gs_m_changes_pageMany (σ : SM) (v : Int32) : m_changes (sm_pageMany σ v) = m_changes σ := rfl
theorem gs_m_changes_endAt (σ : SM) (v : Int32) : m_changes (sm_endAt σ v) = m_changes σ := rfl
theorem gs_m_changes_people (σ : SM) (v : Int32) : m_changes (sm_people σ v) = m_changes σ := rfl
theorem gs_m_changes_river (σ : SM) (v : Int32) : m_changes (sm_river σ v) = m_changes σ := rfl
theorem gs_m_changes_days (σ : SM) (v : Int32) : m_changes (sm_days σ v) = m_changes σ := rfl
theorem gs_m_changes_hillsRead (σ : SM) (v : Int32) : m_changes (sm_hillsRead σ v) = m_changes σ := rfl
theorem gs_m_changes_rows (σ : SM) (v : (Nat → Int32)) : m_changes (sm_rows σ v) = m_changes σ := rfl
theorem gs_m_changes_tunnels (σ : SM) (v : (Nat → Int32)) : m_changes (sm_tunnels σ v) = m_changes σ := rfl
theorem gs_m_changes_askedMany (σ : SM) (v : Int32) : m_changes (sm_askedMany σ v) = m_changes σ := rfl
theorem gs_m_changes_askeds (σ : SM) (v : (Nat → Int32)) : m_changes (sm_askeds σ v) = m_changes σ := rfl
theorem gs_m_changes_parts (σ : SM) (v : (Nat → Int32)) : m_changes (sm_parts σ v) = m_changes σ := rfl
theorem gs_m_changes_seedNow (σ : SM) (v : Int32) : m_changes (sm_seedNow σ v) = m_changes σ := rfl
theorem gs_m_changes_keptHill (σ : SM) (v : Int32) : m_changes (sm_keptHill σ v) = m_changes σ := rfl
theorem gs_m_changes_keptDays (σ : SM) (v : Int32) : m_changes (sm_keptDays σ v) = m_changes σ := rfl
theorem gs_m_changes_keptChanges (σ : SM) (v : Int32) : m_changes (sm_keptChanges σ v) = m_changes σ := rfl
theorem gs_m_changes_keptAsked (σ : SM) (v : Int32) : m_changes (sm_keptAsked σ v) = m_changes σ := rfl
theorem gs_m_changes_keptRows (σ : SM) (v : (Nat → Int32)) : m_changes (sm_keptRows σ v) = m_changes σ := rfl
theorem gs_m_changes_keptTunnels (σ : SM) (v : (Nat → Int32)) : m_changes (sm_keptTunnels σ v) = m_changes σ := rfl
theorem gs_m_changes_keptAskeds (σ : SM) (v : (Nat → Int32)) : m_changes (sm_keptAskeds σ v) = m_changes σ := rfl
theorem gs_m_changes_hash (σ : SM) (v : Int64) : m_changes (sm_hash σ v) = m_changes σ := rfl
theorem gs_m_hillsRead_hillsRead (σ : SM) (v : Int32) : m_hillsRead (sm_hillsRead σ v) = v := rfl
theorem ss_m_hillsRead (σ : SM) (v w : Int32) : sm_hillsRead (sm_hillsRead σ v) w = sm_hillsRead σ w := rfl
theorem gs_m_hillsRead_page (σ : SM) (v : (Nat → Int32)) : m_hillsRead (sm_page σ v) = m_hillsRead σ := rfl
theorem gs_m_hillsRead_pageMany (σ : SM) (v : Int32) : m_hillsRead (sm_pageMany σ v) = m_hillsRead σ := rfl
theorem gs_m_hillsRead_endAt (σ : SM) (v : Int32) : m_hillsRead (sm_endAt σ v) = m_hillsRead σ := rfl
theorem gs_m_hillsRead_people (σ : SM) (v : Int32) : m_hillsRead (sm_people σ v) = m_hillsRead σ := rfl
theorem gs_m_hillsRead_river (σ : SM) (v : Int32) : m_hillsRead (sm_river σ v) = m_hillsRead σ := rfl
theorem gs_m_hillsRead_days (σ : SM) (v : Int32) : m_hillsRead (sm_days σ v) = m_hillsRead σ := rfl
theorem gs_m_hillsRead_changes (σ : SM) (v : Int32) : m_hillsRead (sm_changes σ v) = m_hillsRead σ := rfl
theorem gs_m_hillsRead_rows (σ : SM) (v : (Nat → Int32)) : m_hillsRead (sm_rows σ v) = m_hillsRead σ := rfl
theorem gs_m_hillsRead_tunnels (σ : SM) (v : (Nat → Int32)) : m_hillsRead (sm_tunnels σ v) = m_hillsRead σ := rfl
theorem gs_m_hillsRead_askedMany (σ : SM) (v : Int32) : m_hillsRead (sm_askedMany σ v) = m_hillsRead σ := rfl
theorem gs_m_hillsRead_askeds (σ : SM) (v : (Nat → Int32)) : m_hillsRead (sm_askeds σ v) = m_hillsRead σ := rfl
theorem gs_m_hillsRead_parts (σ : SM) (v : (Nat → Int32)) : m_hillsRead (sm_parts σ v) = m_hillsRead σ := rfl
theorem gs_m_hillsRead_seedNow (σ : SM) (v : Int32) : m_hillsRead (sm_seedNow σ v) = m_hillsRead σ := rfl
theorem gs_m_hillsRead_keptHill (σ : SM) (v : Int32) : m_hillsRead (sm_keptHill σ v) = m_hillsRead σ := rfl
theorem gs_m_hillsRead_keptDays (σ : SM) (v : Int32) : m_hillsRead (sm_keptDays σ v) = m_hillsRead σ := rfl
theorem gs_m_hillsRead_keptChanges (σ : SM) (v : Int32) : m_hillsRead (sm_keptChanges σ v) = m_hillsRead σ := rfl
theorem gs_m_hillsRead_keptAsked (σ : SM) (v : Int32) : m_hillsRead (sm_keptAsked σ v) = m_hillsRead σ := rfl
theorem gs_m_hillsRead_keptRows (σ : SM) (v : (Nat → Int32)) : m_hillsRead (sm_keptRows σ v) = m_hillsRead σ := rfl
theorem gs_m_hillsRead_keptTunnels (σ : SM) (v : (Nat → Int32)) : m_hillsRead (sm_keptTunnels σ v) = m_hillsRead σ := rfl
theorem gs_m_hillsRead_keptAskeds (σ : SM) (v : (Nat → Int32)) : m_hillsRead (sm_keptAskeds σ v) = m_hillsRead σ := rfl
theorem gs_m_hillsRead_hash (σ : SM) (v : Int64) : m_hillsRead (sm_hash σ v) = m_hillsRead σ := rfl
theorem gs_m_rows_rows (σ : SM) (v : (Nat → Int32)) : m_rows (sm_rows σ v) = v := rfl
theorem ss_m_rows (σ : SM) (v w : (Nat → Int32)) : sm_rows (sm_rows σ v) w = sm_rows σ w := rfl
theorem gs_m_rows_page (σ : SM) (v : (Nat → Int32)) : m_rows (sm_page σ v) = m_rows σ := rfl
theorem gs_m_rows_pageMany (σ : SM) (v : Int32) : m_rows (sm_pageMany σ v) = m_rows σ := rfl
theorem gs_m_rows_endAt (σ : SM) (v : Int32) : m_rows (sm_endAt σ v) = m_rows σ := rfl
theorem gs_m_rows_people (σ : SM) (v : Int32) : m_rows (sm_people σ v) = m_rows σ := rfl
theorem gs_m_rows_river (σ : SM) (v : Int32) : m_rows (sm_river σ v) = m_rows σ := rfl
theorem gs_m_rows_days (σ : SM) (v : Int32) : m_rows (sm_days σ v) = m_rows σ := rfl
theorem gs_m_rows_changes (σ : SM) (v : Int32) : m_rows (sm_changes σ v) = m_rows σ := rfl
theorem gs_m_rows_hillsRead (σ : SM) (v : Int32) : m_rows (sm_hillsRead σ v) = m_rows σ := rfl
theorem gs_m_rows_tunnels (σ : SM) (v : (Nat → Int32)) : m_rows (sm_tunnels σ v) = m_rows σ := rfl
theorem gs_m_rows_askedMany (σ : SM) (v : Int32) : m_rows (sm_askedMany σ v) = m_rows σ := rfl
theorem gs_m_rows_askeds (σ : SM) (v : (Nat → Int32)) : m_rows (sm_askeds σ v) = m_rows σ := rfl
theorem gs_m_rows_parts (σ : SM) (v : (Nat → Int32)) : m_rows (sm_parts σ v) = m_rows σ := rfl
theorem gs_m_rows_seedNow (σ : SM) (v : Int32) : m_rows (sm_seedNow σ v) = m_rows σ := rfl
theorem gs_m_rows_keptHill (σ : SM) (v : Int32) : m_rows (sm_keptHill σ v) = m_rows σ := rfl
theorem gs_m_rows_keptDays (σ : SM) (v : Int32) : m_rows (sm_keptDays σ v) = m_rows σ := rfl
theorem gs_m_rows_keptChanges (σ : SM) (v : Int32) : m_rows (sm_keptChanges σ v) = m_rows σ := rfl
theorem gs_m_rows_keptAsked (σ : SM) (v : Int32) : m_rows (sm_keptAsked σ v) = m_rows σ := rfl
theorem gs_m_rows_keptRows (σ : SM) (v : (Nat → Int32)) : m_rows (sm_keptRows σ v) = m_rows σ := rfl
theorem gs_m_rows_keptTunnels (σ : SM) (v : (Nat → Int32)) : m_rows (sm_keptTunnels σ v) = m_rows σ := rfl
theorem gs_m_rows_keptAskeds (σ : SM) (v : (Nat → Int32)) : m_rows (sm_keptAskeds σ v) = m_rows σ := rfl
theorem gs_m_rows_hash (σ : SM) (v : Int64) : m_rows (sm_hash σ v) = m_rows σ := rfl
theorem gs_m_tunnels_tunnels (σ : SM) (v : (Nat → Int32)) : m_tunnels (sm_tunnels σ v) = v := rfl
theorem ss_m_tunnels (σ : SM) (v w : (Nat → Int32)) : sm_tunnels (sm_tunnels σ v) w = sm_tunnels σ w := rfl
theorem gs_m_tunnels_page (σ : SM) (v : (Nat → Int32)) : m_tunnels (sm_page σ v) = m_tunnels σ := rfl
theorem gs_m_tunnels_pageMany (σ : SM) (v : Int32) : m_tunnels (sm_pageMany σ v) = m_tunnels σ := rfl
theorem gs_m_tunnels_endAt (σ : SM) (v : Int32) : m_tunnels (sm_endAt σ v) = m_tunnels σ := rfl
theorem gs_m_tunnels_people (σ : SM) (v : Int32) : m_tunnels (sm_people σ v) = m_tunnels σ := rfl
theorem gs_m_tunnels_river (σ : SM) (v : Int32) : m_tunnels (sm_river σ v) = m_tunnels σ := rfl
theorem gs_m_tunnels_days (σ : SM) (v : Int32) : m_tunnels (sm_days σ v) = m_tunnels σ := rfl
theorem gs_m_tunnels_changes (σ : SM) (v : Int32) : m_tunnels (sm_changes σ v) = m_tunnels σ := rfl
theorem gs_m_tunnels_hillsRead (σ : SM) (v : Int32) : m_tunnels (sm_hillsRead σ v) = m_tunnels σ := rfl
theorem gs_m_tunnels_rows (σ : SM) (v : (Nat → Int32)) : m_tunnels (sm_rows σ v) = m_tunnels σ := rfl
theorem gs_m_tunnels_askedMany (σ : SM) (v : Int32) : m_tunnels (sm_askedMany σ v) = m_tunnels σ := rfl
theorem gs_m_tunnels_askeds (σ : SM) (v : (Nat → Int32)) : m_tunnels (sm_askeds σ v) = m_tunnels σ := rfl
theorem gs_m_tunnels_parts (σ : SM) (v : (Nat → Int32)) : m_tunnels (sm_parts σ v) = m_tunnels σ := rfl
theorem gs_m_tunnels_seedNow (σ : SM) (v : Int32) : m_tunnels (sm_seedNow σ v) = m_tunnels σ := rfl
theorem gs_m_tunnels_keptHill (σ : SM) (v : Int32) : m_tunnels (sm_keptHill σ v) = m_tunnels σ := rfl
theorem gs_m_tunnels_keptDays (σ : SM) (v : Int32) : m_tunnels (sm_keptDays σ v) = m_tunnels σ := rfl
theorem gs_m_tunnels_keptChanges (σ : SM) (v : Int32) : m_tunnels (sm_keptChanges σ v) = m_tunnels σ := rfl
theorem gs_m_tunnels_keptAsked (σ : SM) (v : Int32) : m_tunnels (sm_keptAsked σ v) = m_tunnels σ := rfl
theorem gs_m_tunnels_keptRows (σ : SM) (v : (Nat → Int32)) : m_tunnels (sm_keptRows σ v) = m_tunnels σ := rfl
theorem gs_m_tunnels_keptTunnels (σ : SM) (v : (Nat → Int32)) : m_tunnels (sm_keptTunnels σ v) = m_tunnels σ := rfl
theorem gs_m_tunnels_keptAskeds (σ : SM) (v : (Nat → Int32)) : m_tunnels (sm_keptAskeds σ v) = m_tunnels σ := rfl
theorem gs_m_tunnels_hash (σ : SM) (v : Int64) : m_tunnels (sm_hash σ v) = m_tunnels σ := rfl
theorem gs_m_askedMany_askedMany (σ : SM) (v : Int32) : m_askedMany (sm_askedMany σ v) = v := rfl
theorem ss_m_askedMany (σ : SM) (v w : Int32) : sm_askedMany (sm_askedMany σ v) w = sm_askedMany σ w := rfl
theorem gs_m_askedMany_page (σ : SM) (v : (Nat → Int32)) : m_askedMany (sm_page σ v) = m_askedMany σ := rfl
theorem gs_m_askedMany_pageMany (σ : SM) (v : Int32) : m_askedMany (sm_pageMany σ v) = m_askedMany σ := rfl
theorem gs_m_askedMany_endAt (σ : SM) (v : Int32) : m_askedMany (sm_endAt σ v) = m_askedMany σ := rfl
theorem gs_m_askedMany_people (σ : SM) (v : Int32) : m_askedMany (sm_people σ v) = m_askedMany σ := rfl
theorem gs_m_askedMany_river (σ : SM) (v : Int32) : m_askedMany (sm_river σ v) = m_askedMany σ := rfl
theorem gs_m_askedMany_days (σ : SM) (v : Int32) : m_askedMany (sm_days σ v) = m_askedMany σ := rfl
theorem gs_m_askedMany_changes (σ : SM) (v : Int32) : m_askedMany (sm_changes σ v) = m_askedMany σ := rfl
theorem gs_m_askedMany_hillsRead (σ : SM) (v : Int32) : m_askedMany (sm_hillsRead σ v) = m_askedMany σ := rfl
theorem gs_m_askedMany_rows (σ : SM) (v : (Nat → Int32)) : m_askedMany (sm_rows σ v) = m_askedMany σ := rfl
theorem gs_m_askedMany_tunnels (σ : SM) (v : (Nat → Int32)) : m_askedMany (sm_tunnels σ v) = m_askedMany σ := rfl
theorem gs_m_askedMany_askeds (σ : SM) (v : (Nat → Int32)) : m_askedMany (sm_askeds σ v) = m_askedMany σ := rfl
theorem gs_m_askedMany_parts (σ : SM) (v : (Nat → Int32)) : m_askedMany (sm_parts σ v) = m_askedMany σ := rfl
theorem gs_m_askedMany_seedNow (σ : SM) (v : Int32) : m_askedMany (sm_seedNow σ v) = m_askedMany σ := rfl
theorem gs_m_askedMany_keptHill (σ : SM) (v : Int32) : m_askedMany (sm_keptHill σ v) = m_askedMany σ := rfl
theorem gs_m_askedMany_keptDays (σ : SM) (v : Int32) : m_askedMany (sm_keptDays σ v) = m_askedMany σ := rfl
theorem gs_m_askedMany_keptChanges (σ : SM) (v : Int32) : m_askedMany (sm_keptChanges σ v) = m_askedMany σ := rfl
theorem gs_m_askedMany_keptAsked (σ : SM) (v : Int32) : m_askedMany (sm_keptAsked σ v) = m_askedMany σ := rfl
theorem gs_m_askedMany_keptRows (σ : SM) (v : (Nat → Int32)) : m_askedMany (sm_keptRows σ v) = m_askedMany σ := rfl
theorem gs_m_askedMany_keptTunnels (σ : SM) (v : (Nat → Int32)) : m_askedMany (sm_keptTunnels σ v) = m_askedMany σ := rfl
theorem gs_m_askedMany_keptAskeds (σ : SM) (v : (Nat → Int32)) : m_askedMany (sm_keptAskeds σ v) = m_askedMany σ := rfl
theorem gs_m_askedMany_hash (σ : SM) (v : Int64) : m_askedMany (sm_hash σ v) = m_askedMany σ := rfl
theorem gs_m_askeds_askeds (σ : SM) (v : (Nat → Int32)) : m_askeds (sm_askeds σ v) = v := rfl
theorem ss_m_askeds (σ : SM) (v w : (Nat → Int32)) : sm_askeds (sm_askeds σ v) w = sm_askeds σ w := rfl
theorem gs_m_askeds_page (σ : SM) (v : (Nat → Int32)) : m_askeds (sm_page σ v) = m_askeds σ := rfl
theorem gs_m_askeds_pageMany (σ : SM) (v : Int32) : m_askeds (sm_pageMany σ v) = m_askeds σ := rfl
theorem gs_m_askeds_endAt (σ : SM) (v : Int32) : m_askeds (sm_endAt σ v) = m_askeds σ := rfl
theorem gs_m_askeds_people (σ : SM) (v : Int32) : m_askeds (sm_people σ v) = m_askeds σ := rfl
theorem gs_m_askeds_river (σ : SM) (v : Int32) : m_askeds (sm_river σ v) = m_askeds σ := rfl
theorem gs_m_askeds_days (σ : SM) (v : Int32) : m_askeds (sm_days σ v) = m_askeds σ := rfl
theorem gs_m_askeds_changes (σ : SM) (v : Int32) : m_askeds (sm_changes σ v) = m_askeds σ := rfl
theorem gs_m_askeds_hillsRead (σ : SM) (v : Int32) : m_askeds (sm_hillsRead σ v) = m_askeds σ := rfl
theorem gs_m_askeds_rows (σ : SM) (v : (Nat → Int32)) : m_askeds (sm_rows σ v) = m_askeds σ := rfl
theorem gs_m_askeds_tunnels (σ : SM) (v : (Nat → Int32)) : m_askeds (sm_tunnels σ v) = m_askeds σ := rfl
theorem gs_m_askeds_askedMany (σ : SM) (v : Int32) : m_askeds (sm_askedMany σ v) = m_askeds σ := rfl
theorem gs_m_askeds_parts (σ : SM) (v : (Nat → Int32)) : m_askeds (sm_parts σ v) = m_askeds σ := rfl
theorem gs_m_askeds_seedNow (σ : SM) (v : Int32) : m_askeds (sm_seedNow σ v) = m_askeds σ := rfl
theorem gs_m_askeds_keptHill (σ : SM) (v : Int32) : m_askeds (sm_keptHill σ v) = m_askeds σ := rfl
theorem gs_m_askeds_keptDays (σ : SM) (v : Int32) : m_askeds (sm_keptDays σ v) = m_askeds σ := rfl
theorem gs_m_askeds_keptChanges (σ : SM) (v : Int32) : m_askeds (sm_keptChanges σ v) = m_askeds σ := rfl
theorem gs_m_askeds_keptAsked (σ : SM) (v : Int32) : m_askeds (sm_keptAsked σ v) = m_askeds σ := rfl
theorem gs_m_askeds_keptRows (σ : SM) (v : (Nat → Int32)) : m_askeds (sm_keptRows σ v) = m_askeds σ := rfl
theorem gs_m_askeds_keptTunnels (σ : SM) (v : (Nat → Int32)) : m_askeds (sm_keptTunnels σ v) = m_askeds σ := rfl
theorem gs_m_askeds_keptAskeds (σ : SM) (v : (Nat → Int32)) : m_askeds (sm_keptAskeds σ v) = m_askeds σ := rfl
theorem gs_m_askeds_hash (σ : SM) (v : Int64) : m_askeds (sm_hash σ v) = m_askeds σ := rfl
theorem gs_m_parts_parts (σ : SM) (v : (Nat → Int32)) : m_parts (sm_parts σ v) = v := rfl
theorem ss_m_parts (σ : SM) (v w : (Nat → Int32)) : sm_parts (sm_parts σ v) w = sm_parts σ w := rfl
theorem gs_m_parts_page (σ : SM) (v : (Nat → Int32)) : m_parts (sm_page σ v) = m_parts σ := rfl
theorem gs_m_parts_pageMany (σ : SM) (v : Int32) : m_parts (sm_pageMany σ v) = m_parts σ := rfl
theorem gs_m_parts_endAt (σ : SM) (v : Int32) : m_parts (sm_endAt σ v) = m_parts σ := rfl
theorem gs_m_parts_people (σ : SM) (v : Int32) : m_parts (sm_people σ v) = m_parts σ := rfl
theorem gs_m_parts_river (σ : SM) (v : Int32) : m_parts (sm_river σ v) = m_parts σ := rfl
theorem gs_m_parts_days (σ : SM) (v : Int32) : m_parts (sm_days σ v) = m_parts σ := rfl
theorem gs_m_parts_changes (σ : SM) (v : Int32) : m_parts (sm_changes σ v) = m_parts σ := rfl
theorem gs_m_parts_hillsRead (σ : SM) (v : Int32) : m_parts (sm_hillsRead σ v) = m_parts σ := rfl
theorem gs_m_parts_rows (σ : SM) (v : (Nat → Int32)) : m_parts (sm_rows σ v) = m_parts σ := rfl
theorem gs_m_parts_tunnels (σ : SM) (v : (Nat → Int32)) : m_parts (sm_tunnels σ v) = m_parts σ := rfl
theorem gs_m_parts_askedMany (σ : SM) (v : Int32) : m_parts (sm_askedMany σ v) = m_parts σ := rfl
theorem gs_m_parts_askeds (σ : SM) (v : (Nat → Int32)) : m_parts (sm_askeds σ v) = m_parts σ := rfl
theorem gs_m_parts_seedNow (σ : SM) (v : Int32) : m_parts (sm_seedNow σ v) = m_parts σ := rfl
theorem gs_m_parts_keptHill (σ : SM) (v : Int32) : m_parts (sm_keptHill σ v) = m_parts σ := rfl
theorem gs_m_parts_keptDays (σ : SM) (v : Int32) : m_parts (sm_keptDays σ v) = m_parts σ := rfl
theorem gs_m_parts_keptChanges (σ : SM) (v : Int32) : m_parts (sm_keptChanges σ v) = m_parts σ := rfl
theorem gs_m_parts_keptAsked (σ : SM) (v : Int32) : m_parts (sm_keptAsked σ v) = m_parts σ := rfl
theorem gs_m_parts_keptRows (σ : SM) (v : (Nat → Int32)) : m_parts (sm_keptRows σ v) = m_parts σ := rfl
theorem gs_m_parts_keptTunnels (σ : SM) (v : (Nat → Int32)) : m_parts (sm_keptTunnels σ v) = m_parts σ := rfl
theorem gs_m_parts_keptAskeds (σ : SM) (v : (Nat → Int32)) : m_parts (sm_keptAskeds σ v) = m_parts σ := rfl
theorem gs_m_parts_hash (σ : SM) (v : Int64) : m_parts (sm_hash σ v) = m_parts σ := rfl
theorem gs_m_seedNow_seedNow (σ : SM) (v : Int32) : m_seedNow (sm_seedNow σ v) = v := rfl
theorem ss_m_seedNow (σ : SM) (v w : Int32) : sm_seedNow (sm_seedNow σ v) w = sm_seedNow σ w := rfl
theorem gs_m_seedNow_page (σ : SM) (v : (Nat → Int32)) : m_seedNow (sm_page σ v) = m_seedNow σ := rfl
theorem gs_m_seedNow_pageMany (σ : SM) (v : Int32) : m_seedNow (sm_pageMany σ v) = m_seedNow σ := rfl
theorem gs_m_seedNow_endAt (σ : SM) (v : Int32) : m_seedNow (sm_endAt σ v) = m_seedNow σ := rfl
theorem gs_m_seedNow_people (σ : SM) (v : Int32) : m_seedNow (sm_people σ v) = m_seedNow σ := rfl
theorem gs_m_seedNow_river (σ : SM) (v : Int32) : m_seedNow (sm_river σ v) = m_seedNow σ := rfl
theorem gs_m_seedNow_days (σ : SM) (v : Int32) : m_seedNow (sm_days σ v) = m_seedNow σ := rfl
theorem gs_m_seedNow_changes (σ : SM) (v : Int32) : m_seedNow (sm_changes σ v) = m_seedNow σ := rfl
theorem gs_m_seedNow_hillsRead (σ : SM) (v : Int32) : m_seedNow (sm_hillsRead σ v) = m_seedNow σ := rfl
theorem gs_m_seedNow_rows (σ : SM) (v : (Nat → Int32)) : m_seedNow (sm_rows σ v) = m_seedNow σ := rfl
theorem gs_m_seedNow_tunnels (σ : SM) (v : (Nat → Int32)) : m_seedNow (sm_tunnels σ v) = m_seedNow σ := rfl
theorem gs_m_seedNow_askedMany (σ : SM) (v : Int32) : m_seedNow (sm_askedMany σ v) = m_seedNow σ := rfl
theorem gs_m_seedNow_askeds (σ : SM) (v : (Nat → Int32)) : m_seedNow (sm_askeds σ v) = m_seedNow σ := rfl
theorem gs_m_seedNow_parts (σ : SM) (v : (Nat → Int32)) : m_seedNow (sm_parts σ v) = m_seedNow σ := rfl
theorem gs_m_seedNow_keptHill (σ : SM) (v : Int32) : m_seedNow (sm_keptHill σ v) = m_seedNow σ := rfl
theorem gs_m_seedNow_keptDays (σ : SM) (v : Int32) : m_seedNow (sm_keptDays σ v) = m_seedNow σ := rfl
theorem gs_m_seedNow_keptChanges (σ : SM) (v : Int32) : m_seedNow (sm_keptChanges σ v) = m_seedNow σ := rfl
theorem gs_m_seedNow_keptAsked (σ : SM) (v : Int32) : m_seedNow (sm_keptAsked σ v) = m_seedNow σ := rfl
theorem gs_m_seedNow_keptRows (σ : SM) (v : (Nat → Int32)) : m_seedNow (sm_keptRows σ v) = m_seedNow σ := rfl
theorem gs_m_seedNow_keptTunnels (σ : SM) (v : (Nat → Int32)) : m_seedNow (sm_keptTunnels σ v) = m_seedNow σ := rfl
theorem gs_m_seedNow_keptAskeds (σ : SM) (v : (Nat → Int32)) : m_seedNow (sm_keptAskeds σ v) = m_seedNow σ := rfl
theorem gs_m_seedNow_hash (σ : SM) (v : Int64) : m_seedNow (sm_hash σ v) = m_seedNow σ := rfl
theorem gs_m_keptHill_keptHill (σ : SM) (v : Int32) : m_keptHill (sm_keptHill σ v) = v := rfl
theorem ss_m_keptHill (σ : SM) (v w : Int32) : sm_keptHill (sm_keptHill σ v) w = sm_keptHill σ w := rfl
theorem gs_m_keptHill_page (σ : SM) (v : (Nat → Int32)) : m_keptHill (sm_page σ v) = m_keptHill σ := rfl
theorem gs_m_keptHill_pageMany (σ : SM) (v : Int32) : m_keptHill (sm_pageMany σ v) = m_keptHill σ := rfl
theorem gs_m_keptHill_endAt (σ : SM) (v : Int32) : m_keptHill (sm_endAt σ v) = m_keptHill σ := rfl
theorem gs_m_keptHill_people (σ : SM) (v : Int32) : m_keptHill (sm_people σ v) = m_keptHill σ := rfl
theorem gs_m_keptHill_river (σ : SM) (v : Int32) : m_keptHill (sm_river σ v) = m_keptHill σ := rfl
theorem gs_m_keptHill_days (σ : SM) (v : Int32) : m_keptHill (sm_days σ v) = m_keptHill σ := rfl
theorem gs_m_keptHill_changes (σ : SM) (v : Int32) : m_keptHill (sm_changes σ v) = m_keptHill σ := rfl
theorem gs_m_keptHill_hillsRead (σ : SM) (v : Int32) : m_keptHill (sm_hillsRead σ v) = m_keptHill σ := rfl
theorem gs_m_keptHill_rows (σ : SM) (v : (Nat → Int32)) : m_keptHill (sm_rows σ v) = m_keptHill σ := rfl
theorem gs_m_keptHill_tunnels (σ : SM) (v : (Nat → Int32)) : m_keptHill (sm_tunnels σ v) = m_keptHill σ := rfl
theorem gs_m_keptHill_askedMany (σ : SM) (v : Int32) : m_keptHill (sm_askedMany σ v) = m_keptHill σ := rfl
theorem gs_m_keptHill_askeds (σ : SM) (v : (Nat → Int32)) : m_keptHill (sm_askeds σ v) = m_keptHill σ := rfl
theorem gs_m_keptHill_parts (σ : SM) (v : (Nat → Int32)) : m_keptHill (sm_parts σ v) = m_keptHill σ := rfl
theorem gs_m_keptHill_seedNow (σ : SM) (v : Int32) : m_keptHill (sm_seedNow σ v) = m_keptHill σ := rfl
theorem gs_m_keptHill_keptDays (σ : SM) (v : Int32) : m_keptHill (sm_keptDays σ v) = m_keptHill σ := rfl
theorem gs_m_keptHill_keptChanges (σ : SM) (v : Int32) : m_keptHill (sm_keptChanges σ v) = m_keptHill σ := rfl
theorem gs_m_keptHill_keptAsked (σ : SM) (v : Int32) : m_keptHill (sm_keptAsked σ v) = m_keptHill σ := rfl
theorem gs_m_keptHill_keptRows (σ : SM) (v : (Nat → Int32)) : m_keptHill (sm_keptRows σ v) = m_keptHill σ := rfl
theorem gs_m_keptHill_keptTunnels (σ : SM) (v : (Nat → Int32)) : m_keptHill (sm_keptTunnels σ v) = m_keptHill σ := rfl
theorem gs_m_keptHill_keptAskeds (σ : SM) (v : (Nat → Int32)) : m_keptHill (sm_keptAskeds σ v) = m_keptHill σ := rfl
theorem gs_m_keptHill_hash (σ : SM) (v : Int64) : m_keptHill (sm_hash σ v) = m_keptHill σ := rfl
theorem gs_m_keptDays_keptDays (σ : SM) (v : Int32) : m_keptDays (sm_keptDays σ v) = v := rfl
theorem ss_m_keptDays (σ : SM) (v w : Int32) : sm_keptDays (sm_keptDays σ v) w = sm_keptDays σ w := rfl
theorem gs_m_keptDays_page (σ : SM) (v : (Nat → Int32)) : m_keptDays (sm_page σ v) = m_keptDays σ := rfl
theorem gs_m_keptDays_pageMany (σ : SM) (v : Int32) : m_keptDays (sm_pageMany σ v) = m_keptDays σ := rfl
theorem gs_m_keptDays_endAt (σ : SM) (v : Int32) : m_keptDays (sm_endAt σ v) = m_keptDays σ := rfl
theorem gs_m_keptDays_people (σ : SM) (v : Int32) : m_keptDays (sm_people σ v) = m_keptDays σ := rfl
theorem gs_m_keptDays_river (σ : SM) (v : Int32) : m_keptDays (sm_river σ v) = m_keptDays σ := rfl
theorem gs_m_keptDays_days (σ : SM) (v : Int32) : m_keptDays (sm_days σ v) = m_keptDays σ := rfl
theorem gs_m_keptDays_changes (σ : SM) (v : Int32) : m_keptDays (sm_changes σ v) = m_keptDays σ := rfl
theorem gs_m_keptDays_hillsRead (σ : SM) (v : Int32) : m_keptDays (sm_hillsRead σ v) = m_keptDays σ := rfl
theorem gs_m_keptDays_rows (σ : SM) (v : (Nat → Int32)) : m_keptDays (sm_rows σ v) = m_keptDays σ := rfl
theorem gs_m_keptDays_tunnels (σ : SM) (v : (Nat → Int32)) : m_keptDays (sm_tunnels σ v) = m_keptDays σ := rfl
theorem gs_m_keptDays_askedMany (σ : SM) (v : Int32) : m_keptDays (sm_askedMany σ v) = m_keptDays σ := rfl
theorem gs_m_keptDays_askeds (σ : SM) (v : (Nat → Int32)) : m_keptDays (sm_askeds σ v) = m_keptDays σ := rfl
theorem gs_m_keptDays_parts (σ : SM) (v : (Nat → Int32)) : m_keptDays (sm_parts σ v) = m_keptDays σ := rfl
theorem gs_m_keptDays_seedNow (σ : SM) (v : Int32) : m_keptDays (sm_seedNow σ v) = m_keptDays σ := rfl
theorem gs_m_keptDays_keptHill (σ : SM) (v : Int32) : m_keptDays (sm_keptHill σ v) = m_keptDays σ := rfl
theorem gs_m_keptDays_keptChanges (σ : SM) (v : Int32) : m_keptDays (sm_keptChanges σ v) = m_keptDays σ := rfl
theorem gs_m_keptDays_keptAsked (σ : SM) (v : Int32) : m_keptDays (sm_keptAsked σ v) = m_keptDays σ := rfl
theorem gs_m_keptDays_keptRows (σ : SM) (v : (Nat → Int32)) : m_keptDays (sm_keptRows σ v) = m_keptDays σ := rfl
theorem gs_m_keptDays_keptTunnels (σ : SM) (v : (Nat → Int32)) : m_keptDays (sm_keptTunnels σ v) = m_keptDays σ := rfl
theorem gs_m_keptDays_keptAskeds (σ : SM) (v : (Nat → Int32)) : m_keptDays (sm_keptAskeds σ v) = m_keptDays σ := rfl
theorem gs_m_keptDays_hash (σ : SM) (v : Int64) : m_keptDays (sm_hash σ v) = m_keptDays σ := rfl
theorem gs_m_keptChanges_keptChanges (σ : SM) (v : Int32) : m_keptChanges (sm_keptChanges σ v) = v := rfl
theorem ss_m_keptChanges (σ : SM) (v w : Int32) : sm_keptChanges (sm_keptChanges σ v) w = sm_keptChanges σ w := rfl
theorem gs_m_keptChanges_page (σ : SM) (v : (Nat → Int32)) : m_keptChanges (sm_page σ v) = m_keptChanges σ := rfl
theorem gs_m_keptChanges_pageMany (σ : SM) (v : Int32) : m_keptChanges (sm_pageMany σ v) = m_keptChanges σ := rfl
theorem gs_m_keptChanges_endAt (σ : SM) (v : Int32) : m_keptChanges (sm_endAt σ v) = m_keptChanges σ := rfl
theorem gs_m_keptChanges_people (σ : SM) (v : Int32) : m_keptChanges (sm_people σ v) = m_keptChanges σ := rfl
theorem gs_m_keptChanges_river (σ : SM) (v : Int32) : m_keptChanges (sm_river σ v) = m_keptChanges σ := rfl
theorem gs_m_keptChanges_days (σ : SM) (v : Int32) : m_keptChanges (sm_days σ v) = m_keptChanges σ := rfl
theorem gs_m_keptChanges_changes (σ : SM) (v : Int32) : m_keptChanges (sm_changes σ v) = m_keptChanges σ := rfl
theorem gs_m_keptChanges_hillsRead (σ : SM) (v : Int32) : m_keptChanges (sm_hillsRead σ v) = m_keptChanges σ := rfl
theorem gs_m_keptChanges_rows (σ : SM) (v : (Nat → Int32)) : m_keptChanges (sm_rows σ v) = m_keptChanges σ := rfl
theorem gs_m_keptChanges_tunnels (σ : SM) (v : (Nat → Int32)) : m_keptChanges (sm_tunnels σ v) = m_keptChanges σ := rfl
theorem gs_m_keptChanges_askedMany (σ : SM) (v : Int32) : m_keptChanges (sm_askedMany σ v) = m_keptChanges σ := rfl
theorem gs_m_keptChanges_askeds (σ : SM) (v : (Nat → Int32)) : m_keptChanges (sm_askeds σ v) = m_keptChanges σ := rfl
theorem gs_m_keptChanges_parts (σ : SM) (v : (Nat → Int32)) : m_keptChanges (sm_parts σ v) = m_keptChanges σ := rfl
theorem gs_m_keptChanges_seedNow (σ : SM) (v : Int32) : m_keptChanges (sm_seedNow σ v) = m_keptChanges σ := rfl
theorem gs_m_keptChanges_keptHill (σ : SM) (v : Int32) : m_keptChanges (sm_keptHill σ v) = m_keptChanges σ := rfl
theorem gs_m_keptChanges_keptDays (σ : SM) (v : Int32) : m_keptChanges (sm_keptDays σ v) = m_keptChanges σ := rfl
theorem gs_m_keptChanges_keptAsked (σ : SM) (v : Int32) : m_keptChanges (sm_keptAsked σ v) = m_keptChanges σ := rfl
theorem gs_m_keptChanges_keptRows (σ : SM) (v : (Nat → Int32)) : m_keptChanges (sm_keptRows σ v) = m_keptChanges σ := rfl
theorem gs_m_keptChanges_keptTunnels (σ : SM) (v : (Nat → Int32)) : m_keptChanges (sm_keptTunnels σ v) = m_keptChanges σ := rfl
theorem gs_m_keptChanges_keptAskeds (σ : SM) (v : (Nat → Int32)) : m_keptChanges (sm_keptAskeds σ v) = m_keptChanges σ := rfl
theorem gs_m_keptChanges_hash (σ : SM) (v : Int64) : m_keptChanges (sm_hash σ v) = m_keptChanges σ := rfl
theorem gs_m_keptAsked_keptAsked (σ : SM) (v : Int32) : m_keptAsked (sm_keptAsked σ v) = v := rfl
theorem ss_m_keptAsked (σ : SM) (v w : Int32) : sm_keptAsked (sm_keptAsked σ v) w = sm_keptAsked σ w := rfl
theorem gs_m_keptAsked_page (σ : SM) (v : (Nat → Int32)) : m_keptAsked (sm_page σ v) = m_keptAsked σ := rfl
theorem gs_m_keptAsked_pageMany (σ : SM) (v : Int32) : m_keptAsked (sm_pageMany σ v) = m_keptAsked σ := rfl
theorem gs_m_keptAsked_endAt (σ : SM) (v : Int32) : m_keptAsked (sm_endAt σ v) = m_keptAsked σ := rfl
theorem gs_m_keptAsked_people (σ : SM) (v : Int32) : m_keptAsked (sm_people σ v) = m_keptAsked σ := rfl
theorem gs_m_keptAsked_river (σ : SM) (v : Int32) : m_keptAsked (sm_river σ v) = m_keptAsked σ := rfl
theorem gs_m_keptAsked_days (σ : SM) (v : Int32) : m_keptAsked (sm_days σ v) = m_keptAsked σ := rfl
theorem gs_m_keptAsked_changes (σ : SM) (v : Int32) : m_keptAsked (sm_changes σ v) = m_keptAsked σ := rfl
theorem gs_m_keptAsked_hillsRead (σ : SM) (v : Int32) : m_keptAsked (sm_hillsRead σ v) = m_keptAsked σ := rfl
theorem gs_m_keptAsked_rows (σ : SM) (v : (Nat → Int32)) : m_keptAsked (sm_rows σ v) = m_keptAsked σ := rfl
theorem gs_m_keptAsked_tunnels (σ : SM) (v : (Nat → Int32)) : m_keptAsked (sm_tunnels σ v) = m_keptAsked σ := rfl
theorem gs_m_keptAsked_askedMany (σ : SM) (v : Int32) : m_keptAsked (sm_askedMany σ v) = m_keptAsked σ := rfl
theorem gs_m_keptAsked_askeds (σ : SM) (v : (Nat → Int32)) : m_keptAsked (sm_askeds σ v) = m_keptAsked σ := rfl
theorem gs_m_keptAsked_parts (σ : SM) (v : (Nat → Int32)) : m_keptAsked (sm_parts σ v) = m_keptAsked σ := rfl
theorem gs_m_keptAsked_seedNow (σ : SM) (v : Int32) : m_keptAsked (sm_seedNow σ v) = m_keptAsked σ := rfl
theorem gs_m_keptAsked_keptHill (σ : SM) (v : Int32) : m_keptAsked (sm_keptHill σ v) = m_keptAsked σ := rfl
theorem gs_m_keptAsked_keptDays (σ : SM) (v : Int32) : m_keptAsked (sm_keptDays σ v) = m_keptAsked σ := rfl
theorem gs_m_keptAsked_keptChanges (σ : SM) (v : Int32) : m_keptAsked (sm_keptChanges σ v) = m_keptAsked σ := rfl
theorem gs_m_keptAsked_keptRows (σ : SM) (v : (Nat → Int32)) : m_keptAsked (sm_keptRows σ v) = m_keptAsked σ := rfl
theorem gs_m_keptAsked_keptTunnels (σ : SM) (v : (Nat → Int32)) : m_keptAsked (sm_keptTunnels σ v) = m_keptAsked σ := rfl
theorem gs_m_keptAsked_keptAskeds (σ : SM) (v : (Nat → Int32)) : m_keptAsked (sm_keptAskeds σ v) = m_keptAsked σ := rfl
theorem gs_m_keptAsked_hash (σ : SM) (v : Int64) : m_keptAsked (sm_hash σ v) = m_keptAsked σ := rfl
theorem gs_m_keptRows_keptRows (σ : SM) (v : (Nat → Int32)) : m_keptRows (sm_keptRows σ v) = v := rfl
theorem ss_m_keptRows (σ : SM) (v w : (Nat → Int32)) : sm_keptRows (sm_keptRows σ v) w = sm_keptRows σ w := rfl
theorem gs_m_keptRows_page (σ : SM) (v : (Nat → Int32)) : m_keptRows (sm_page σ v) = m_keptRows σ := rfl
theorem gs_m_keptRows_pageMany (σ : SM) (v : Int32) : m_keptRows (sm_pageMany σ v) = m_keptRows σ := rfl
theorem gs_m_keptRows_endAt (σ : SM) (v : Int32) : m_keptRows (sm_endAt σ v) = m_keptRows σ := rfl
theorem gs_m_keptRows_people (σ : SM) (v : Int32) : m_keptRows (sm_people σ v) = m_keptRows σ := rfl
theorem gs_m_keptRows_river (σ : SM) (v : Int32) : m_keptRows (sm_river σ v) = m_keptRows σ := rfl
theorem gs_m_keptRows_days (σ : SM) (v : Int32) : m_keptRows (sm_days σ v) = m_keptRows σ := rfl
theorem gs_m_keptRows_changes (σ : SM) (v : Int32) : m_keptRows (sm_changes σ v) = m_keptRows σ := rfl
theorem gs_m_keptRows_hillsRead (σ : SM) (v : Int32) : m_keptRows (sm_hillsRead σ v) = m_keptRows σ := rfl
theorem gs_m_keptRows_rows (σ : SM) (v : (Nat → Int32)) : m_keptRows (sm_rows σ v) = m_keptRows σ := rfl
theorem gs_m_keptRows_tunnels (σ : SM) (v : (Nat → Int32)) : m_keptRows (sm_tunnels σ v) = m_keptRows σ := rfl
theorem gs_m_keptRows_askedMany (σ : SM) (v : Int32) : m_keptRows (sm_askedMany σ v) = m_keptRows σ := rfl
theorem gs_m_keptRows_askeds (σ : SM) (v : (Nat → Int32)) : m_keptRows (sm_askeds σ v) = m_keptRows σ := rfl
theorem gs_m_keptRows_parts (σ : SM) (v : (Nat → Int32)) : m_keptRows (sm_parts σ v) = m_keptRows σ := rfl
theorem gs_m_keptRows_seedNow (σ : SM) (v : Int32) : m_keptRows (sm_seedNow σ v) = m_keptRows σ := rfl
theorem gs_m_keptRows_keptHill (σ : SM) (v : Int32) : m_keptRows (sm_keptHill σ v) = m_keptRows σ := rfl
theorem gs_m_keptRows_keptDays (σ : SM) (v : Int32) : m_keptRows (sm_keptDays σ v) = m_keptRows σ := rfl
theorem gs_m_keptRows_keptChanges (σ : SM) (v : Int32) : m_keptRows (sm_keptChanges σ v) = m_keptRows σ := rfl
theorem gs_m_keptRows_keptAsked (σ : SM) (v : Int32) : m_keptRows (sm_keptAsked σ v) = m_keptRows σ := rfl
theorem gs_m_keptRows_keptTunnels (σ : SM) (v : (Nat → Int32)) : m_keptRows (sm_keptTunnels σ v) = m_keptRows σ := rfl
theorem gs_m_keptRows_keptAskeds (σ : SM) (v : (Nat → Int32)) : m_keptRows (sm_keptAskeds σ v) = m_keptRows σ := rfl
theorem gs_m_keptRows_hash (σ : SM) (v : Int64) : m_keptRows (sm_hash σ v) = m_keptRows σ := rfl
theorem gs_m_keptTunnels_keptTunnels (σ : SM) (v : (Nat → Int32)) : m_keptTunnels (sm_keptTunnels σ v) = v := rfl
theorem ss_m_keptTunnels (σ : SM) (v w : (Nat → Int32)) : sm_keptTunnels (sm_keptTunnels σ v) w = sm_keptTunnels σ w := rfl
theorem gs_m_keptTunnels_page (σ : SM) (v : (Nat → Int32)) : m_keptTunnels (sm_page σ v) = m_keptTunnels σ := rfl
theorem gs_m_keptTunnels_pageMany (σ : SM) (v : Int32) : m_keptTunnels (sm_pageMany σ v) = m_keptTunnels σ := rfl
theorem gs_m_keptTunnels_endAt (σ : SM) (v : Int32) : m_keptTunnels (sm_endAt σ v) = m_keptTunnels σ := rfl
theorem gs_m_keptTunnels_people (σ : SM) (v : Int32) : m_keptTunnels (sm_people σ v) = m_keptTunnels σ := rfl
theorem gs_m_keptTunnels_river (σ : SM) (v : Int32) : m_keptTunnels (sm_river σ v) = m_keptTunnels σ := rfl
theorem gs_m_keptTunnels_days (σ : SM) (v : Int32) : m_keptTunnels (sm_days σ v) = m_keptTunnels σ := rfl
theorem gs_m_keptTunnels_changes (σ : SM) (v : Int32) : m_keptTunnels (sm_changes σ v) = m_keptTunnels σ := rfl
theorem gs_m_keptTunnels_hillsRead (σ : SM) (v : Int32) : m_keptTunnels (sm_hillsRead σ v) = m_keptTunnels σ := rfl
theorem gs_m_keptTunnels_rows (σ : SM) (v : (Nat → Int32)) : m_keptTunnels (sm_rows σ v) = m_keptTunnels σ := rfl
theorem gs_m_keptTunnels_tunnels (σ : SM) (v : (Nat → Int32)) : m_keptTunnels (sm_tunnels σ v) = m_keptTunnels σ := rfl
theorem gs_m_keptTunnels_askedMany (σ : SM) (v : Int32) : m_keptTunnels (sm_askedMany σ v) = m_keptTunnels σ := rfl
theorem gs_m_keptTunnels_askeds (σ : SM) (v : (Nat → Int32)) : m_keptTunnels (sm_askeds σ v) = m_keptTunnels σ := rfl
theorem gs_m_keptTunnels_parts (σ : SM) (v : (Nat → Int32)) : m_keptTunnels (sm_parts σ v) = m_keptTunnels σ := rfl
theorem gs_m_keptTunnels_seedNow (σ : SM) (v : Int32) : m_keptTunnels (sm_seedNow σ v) = m_keptTunnels σ := rfl
theorem gs_m_keptTunnels_keptHill (σ : SM) (v : Int32) : m_keptTunnels (sm_keptHill σ v) = m_keptTunnels σ := rfl
theorem gs_m_keptTunnels_keptDays (σ : SM) (v : Int32) : m_keptTunnels (sm_keptDays σ v) = m_keptTunnels σ := rfl
theorem gs_m_keptTunnels_keptChanges (σ : SM) (v : Int32) : m_keptTunnels (sm_keptChanges σ v) = m_keptTunnels σ := rfl
theorem gs_m_keptTunnels_keptAsked (σ : SM) (v : Int32) : m_keptTunnels (sm_keptAsked σ v) = m_keptTunnels σ := rfl
theorem gs_m_keptTunnels_keptRows (σ : SM) (v : (Nat → Int32)) : m_keptTunnels (sm_keptRows σ v) = m_keptTunnels σ := rfl
theorem gs_m_keptTunnels_keptAskeds (σ : SM) (v : (Nat → Int32)) : m_keptTunnels (sm_keptAskeds σ v) = m_keptTunnels σ := rfl
theorem gs_m_keptTunnels_hash (σ : SM) (v : Int64) : m_keptTunnels (sm_hash σ v) = m_keptTunnels σ := rfl
theorem gs_m_keptAskeds_keptAskeds (σ : SM) (v : (Nat → Int32)) : m_keptAskeds (sm_keptAskeds σ v) = v := rfl
theorem ss_m_keptAskeds (σ : SM) (v w : (Nat → Int32)) : sm_keptAskeds (sm_keptAskeds σ v) w = sm_keptAskeds σ w := rfl
theorem gs_m_keptAskeds_page (σ : SM) (v : (Nat → Int32)) : m_keptAskeds (sm_page σ v) = m_keptAskeds σ := rfl
theorem gs_m_keptAskeds_pageMany (σ : SM) (v : Int32) : m_keptAskeds (sm_pageMany σ v) = m_keptAskeds σ := rfl
theorem gs_m_keptAskeds_endAt (σ : SM) (v : Int32) : m_keptAskeds (sm_endAt σ v) = m_keptAskeds σ := rfl
theorem gs_m_keptAskeds_people (σ : SM) (v : Int32) : m_keptAskeds (sm_people σ v) = m_keptAskeds σ := rfl
theorem gs_m_keptAskeds_river (σ : SM) (v : Int32) : m_keptAskeds (sm_river σ v) = m_keptAskeds σ := rfl
theorem gs_m_keptAskeds_days (σ : SM) (v : Int32) : m_keptAskeds (sm_days σ v) = m_keptAskeds σ := rfl
theorem gs_m_keptAskeds_changes (σ : SM) (v : Int32) : m_keptAskeds (sm_changes σ v) = m_keptAskeds σ := rfl
theorem gs_m_keptAskeds_hillsRead (σ : SM) (v : Int32) : m_keptAskeds (sm_hillsRead σ v) = m_keptAskeds σ := rfl
theorem gs_m_keptAskeds_rows (σ : SM) (v : (Nat → Int32)) : m_keptAskeds (sm_rows σ v) = m_keptAskeds σ := rfl
theorem gs_m_keptAskeds_tunnels (σ : SM) (v : (Nat → Int32)) : m_keptAskeds (sm_tunnels σ v) = m_keptAskeds σ := rfl
theorem gs_m_keptAskeds_askedMany (σ : SM) (v : Int32) : m_keptAskeds (sm_askedMany σ v) = m_keptAskeds σ := rfl
theorem gs_m_keptAskeds_askeds (σ : SM) (v : (Nat → Int32)) : m_keptAskeds (sm_askeds σ v) = m_keptAskeds σ := rfl
theorem gs_m_keptAskeds_parts (σ : SM) (v : (Nat → Int32)) : m_keptAskeds (sm_parts σ v) = m_keptAskeds σ := rfl
theorem gs_m_keptAskeds_seedNow (σ : SM) (v : Int32) : m_keptAskeds (sm_seedNow σ v) = m_keptAskeds σ := rfl
theorem gs_m_keptAskeds_keptHill (σ : SM) (v : Int32) : m_keptAskeds (sm_keptHill σ v) = m_keptAskeds σ := rfl
theorem gs_m_keptAskeds_keptDays (σ : SM) (v : Int32) : m_keptAskeds (sm_keptDays σ v) = m_keptAskeds σ := rfl
theorem gs_m_keptAskeds_keptChanges (σ : SM) (v : Int32) : m_keptAskeds (sm_keptChanges σ v) = m_keptAskeds σ := rfl
theorem gs_m_keptAskeds_keptAsked (σ : SM) (v : Int32) : m_keptAskeds (sm_keptAsked σ v) = m_keptAskeds σ := rfl
theorem gs_m_keptAskeds_keptRows (σ : SM) (v : (Nat → Int32)) : m_keptAskeds (sm_keptRows σ v) = m_keptAskeds σ := rfl
theorem gs_m_keptAskeds_keptTunnels (σ : SM) (v : (Nat → Int32)) : m_keptAskeds (sm_keptTunnels σ v) = m_keptAskeds σ := rfl
theorem gs_m_keptAskeds_hash (σ : SM) (v : Int64) : m_keptAskeds (sm_hash σ v) = m_keptAskeds σ := rfl
theorem gs_m_hash_hash (σ : SM) (v : Int64) : m_hash (sm_hash σ v) = v := rfl
theorem ss_m_hash (σ : SM) (v w : Int64) : sm_hash (sm_hash σ v) w = sm_hash σ w := rfl
theorem gs_m_hash_page (σ : SM) (v : (Nat → Int32)) : m_hash (sm_page σ v) = m_hash σ := rfl
theorem gs_m_hash_pageMany (σ : SM) (v : Int32) : m_hash (sm_pageMany σ v) = m_hash σ := rfl
theorem gs_m_hash_endAt (σ : SM) (v : Int32) : m_hash (sm_endAt σ v) = m_hash σ := rfl
theorem gs_m_hash_people (σ : SM) (v : Int32) : m_hash (sm_people σ v) = m_hash σ := rfl
theorem gs_m_hash_river (σ : SM) (v : Int32) : m_hash (sm_river σ v) = m_hash σ := rfl
theorem gs_m_hash_days (σ : SM) (v : Int32) : m_hash (sm_days σ v) = m_hash σ := rfl
theorem gs_m_hash_changes (σ : SM) (v : Int32) : m_hash (sm_changes σ v) = m_hash σ := rfl
theorem gs_m_hash_hillsRead (σ : SM) (v : Int32) : m_hash (sm_hillsRead σ v) = m_hash σ := rfl
theorem gs_m_hash_rows (σ : SM) (v : (Nat → Int32)) : m_hash (sm_rows σ v) = m_hash σ := rfl
theorem gs_m_hash_tunnels (σ : SM) (v : (Nat → Int32)) : m_hash (sm_tunnels σ v) = m_hash σ := rfl
theorem gs_m_hash_askedMany (σ : SM) (v : Int32) : m_hash (sm_askedMany σ v) = m_hash σ := rfl
theorem gs_m_hash_askeds (σ : SM) (v : (Nat → Int32)) : m_hash (sm_askeds σ v) = m_hash σ := rfl
theorem gs_m_hash_parts (σ : SM) (v : (Nat → Int32)) : m_hash (sm_parts σ v) = m_hash σ := rfl
theorem gs_m_hash_seedNow (σ : SM) (v : Int32) : m_hash (sm_seedNow σ v) = m_hash σ := rfl
theorem gs_m_hash_keptHill (σ : SM) (v : Int32) : m_hash (sm_keptHill σ v) = m_hash σ := rfl
theorem gs_m_hash_keptDays (σ : SM) (v : Int32) : m_hash (sm_keptDays σ v) = m_hash σ := rfl
theorem gs_m_hash_keptChanges (σ : SM) (v : Int32) : m_hash (sm_keptChanges σ v) = m_hash σ := rfl
theorem gs_m_hash_keptAsked (σ : SM) (v : Int32) : m_hash (sm_keptAsked σ v) = m_hash σ := rfl
theorem gs_m_hash_keptRows (σ : SM) (v : (Nat → Int32)) : m_hash (sm_keptRows σ v) = m_hash σ := rfl
theorem gs_m_hash_keptTunnels (σ : SM) (v : (Nat → Int32)) : m_hash (sm_keptTunnels σ v) = m_hash σ := rfl
theorem gs_m_hash_keptAskeds (σ : SM) (v : (Nat → Int32)) : m_hash (sm_keptAskeds σ v) = m_hash σ := rfl
