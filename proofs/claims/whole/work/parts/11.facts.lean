set_option maxRecDepth 100000 in
theorem gc0 : gCode 0 = cX0_init := rfl
set_option maxRecDepth 100000 in
theorem go0 : gOwn 0 = 0 := rfl
set_option maxRecDepth 100000 in
theorem ga0 : gArg 0 = 0 := rfl
set_option maxRecDepth 100000 in
theorem gs0 : gSta 0 = false := rfl
set_option maxRecDepth 100000 in
theorem gm0 : gMax 0 = 1 := rfl
set_option maxRecDepth 100000 in
theorem gr0 : gRet 0 = none := rfl
set_option maxRecDepth 100000 in
theorem gc1 : gCode 1 = cX0_find := rfl
set_option maxRecDepth 100000 in
theorem go1 : gOwn 1 = 0 := rfl
set_option maxRecDepth 100000 in
theorem ga1 : gArg 1 = 4 := rfl
set_option maxRecDepth 100000 in
theorem gs1 : gSta 1 = false := rfl
set_option maxRecDepth 100000 in
theorem gm1 : gMax 1 = 8 := rfl
set_option maxRecDepth 100000 in
theorem gr1 : gRet 1 = none := rfl
set_option maxRecDepth 100000 in
theorem gc2 : gCode 2 = cX0_sendCrew := rfl
set_option maxRecDepth 100000 in
theorem go2 : gOwn 2 = 0 := rfl
set_option maxRecDepth 100000 in
theorem ga2 : gArg 2 = 3 := rfl
set_option maxRecDepth 100000 in
theorem gs2 : gSta 2 = true := rfl
set_option maxRecDepth 100000 in
theorem gm2 : gMax 2 = 4 := rfl
set_option maxRecDepth 100000 in
theorem gr2 : gRet 2 = none := rfl
set_option maxRecDepth 100000 in
theorem gc3 : gCode 3 = cX0_choose := rfl
set_option maxRecDepth 100000 in
theorem go3 : gOwn 3 = 0 := rfl
set_option maxRecDepth 100000 in
theorem ga3 : gArg 3 = 4 := rfl
set_option maxRecDepth 100000 in
theorem gs3 : gSta 3 = false := rfl
set_option maxRecDepth 100000 in
theorem gm3 : gMax 3 = 6 := rfl
set_option maxRecDepth 100000 in
theorem gr3 : gRet 3 = none := rfl
set_option maxRecDepth 100000 in
theorem gc4 : gCode 4 = cX0_tryGoal := rfl
set_option maxRecDepth 100000 in
theorem go4 : gOwn 4 = 0 := rfl
set_option maxRecDepth 100000 in
theorem ga4 : gArg 4 = 5 := rfl
set_option maxRecDepth 100000 in
theorem gs4 : gSta 4 = false := rfl
set_option maxRecDepth 100000 in
theorem gm4 : gMax 4 = 9 := rfl
set_option maxRecDepth 100000 in
theorem gr4 : gRet 4 = none := rfl
set_option maxRecDepth 100000 in
theorem gc5 : gCode 5 = cX0_noteIfBetter := rfl
set_option maxRecDepth 100000 in
theorem go5 : gOwn 5 = 0 := rfl
set_option maxRecDepth 100000 in
theorem ga5 : gArg 5 = 1 := rfl
set_option maxRecDepth 100000 in
theorem gs5 : gSta 5 = false := rfl
set_option maxRecDepth 100000 in
theorem gm5 : gMax 5 = 3 := rfl
set_option maxRecDepth 100000 in
theorem gr5 : gRet 5 = none := rfl
set_option maxRecDepth 100000 in
theorem gc6 : gCode 6 = cX1_init := rfl
set_option maxRecDepth 100000 in
theorem go6 : gOwn 6 = 1 := rfl
set_option maxRecDepth 100000 in
theorem ga6 : gArg 6 = 0 := rfl
set_option maxRecDepth 100000 in
theorem gs6 : gSta 6 = false := rfl
set_option maxRecDepth 100000 in
theorem gm6 : gMax 6 = 1 := rfl
set_option maxRecDepth 100000 in
theorem gr6 : gRet 6 = none := rfl
set_option maxRecDepth 100000 in
theorem gc7 : gCode 7 = cX1_form := rfl
set_option maxRecDepth 100000 in
theorem go7 : gOwn 7 = 1 := rfl
set_option maxRecDepth 100000 in
theorem ga7 : gArg 7 = 2 := rfl
set_option maxRecDepth 100000 in
theorem gs7 : gSta 7 = false := rfl
set_option maxRecDepth 100000 in
theorem gm7 : gMax 7 = 4 := rfl
set_option maxRecDepth 100000 in
theorem gr7 : gRet 7 = none := rfl
set_option maxRecDepth 100000 in
theorem gc8 : gCode 8 = cX1_merge := rfl
set_option maxRecDepth 100000 in
theorem go8 : gOwn 8 = 1 := rfl
set_option maxRecDepth 100000 in
theorem ga8 : gArg 8 = 2 := rfl
set_option maxRecDepth 100000 in
theorem gs8 : gSta 8 = false := rfl
set_option maxRecDepth 100000 in
theorem gm8 : gMax 8 = 4 := rfl
set_option maxRecDepth 100000 in
theorem gr8 : gRet 8 = none := rfl
set_option maxRecDepth 100000 in
theorem gc9 : gCode 9 = cX1_areOne := rfl
set_option maxRecDepth 100000 in
theorem go9 : gOwn 9 = 1 := rfl
set_option maxRecDepth 100000 in
theorem ga9 : gArg 9 = 2 := rfl
set_option maxRecDepth 100000 in
theorem gs9 : gSta 9 = false := rfl
set_option maxRecDepth 100000 in
theorem gm9 : gMax 9 = 3 := rfl
set_option maxRecDepth 100000 in
theorem gr9 : gRet 9 = (some .boolean) := rfl
set_option maxRecDepth 100000 in
theorem gc10 : gCode 10 = cX1_pairsJoined := rfl
set_option maxRecDepth 100000 in
theorem go10 : gOwn 10 = 1 := rfl
set_option maxRecDepth 100000 in
theorem ga10 : gArg 10 = 2 := rfl
set_option maxRecDepth 100000 in
theorem gs10 : gSta 10 = false := rfl
set_option maxRecDepth 100000 in
theorem gm10 : gMax 10 = 3 := rfl
set_option maxRecDepth 100000 in
theorem gr10 : gRet 10 = (some .int) := rfl
set_option maxRecDepth 100000 in
theorem gc11 : gCode 11 = cX1_sizeWith := rfl
set_option maxRecDepth 100000 in
theorem go11 : gOwn 11 = 1 := rfl
set_option maxRecDepth 100000 in
theorem ga11 : gArg 11 = 1 := rfl
set_option maxRecDepth 100000 in
theorem gs11 : gSta 11 = false := rfl
set_option maxRecDepth 100000 in
theorem gm11 : gMax 11 = 4 := rfl
set_option maxRecDepth 100000 in
theorem gr11 : gRet 11 = (some .int) := rfl
set_option maxRecDepth 100000 in
theorem gc12 : gCode 12 = cX1_howMany := rfl
set_option maxRecDepth 100000 in
theorem go12 : gOwn 12 = 1 := rfl
set_option maxRecDepth 100000 in
theorem ga12 : gArg 12 = 1 := rfl
set_option maxRecDepth 100000 in
theorem gs12 : gSta 12 = false := rfl
set_option maxRecDepth 100000 in
theorem gm12 : gMax 12 = 5 := rfl
set_option maxRecDepth 100000 in
theorem gr12 : gRet 12 = (some .int) := rfl
set_option maxRecDepth 100000 in
theorem gc13 : gCode 13 = cX2_init := rfl
set_option maxRecDepth 100000 in
theorem go13 : gOwn 13 = 2 := rfl
set_option maxRecDepth 100000 in
theorem ga13 : gArg 13 = 0 := rfl
set_option maxRecDepth 100000 in
theorem gs13 : gSta 13 = false := rfl
set_option maxRecDepth 100000 in
theorem gm13 : gMax 13 = 1 := rfl
set_option maxRecDepth 100000 in
theorem gr13 : gRet 13 = none := rfl
set_option maxRecDepth 100000 in
theorem gc14 : gCode 14 = cX2_clear := rfl
set_option maxRecDepth 100000 in
theorem go14 : gOwn 14 = 2 := rfl
set_option maxRecDepth 100000 in
theorem ga14 : gArg 14 = 0 := rfl
set_option maxRecDepth 100000 in
theorem gs14 : gSta 14 = false := rfl
set_option maxRecDepth 100000 in
theorem gm14 : gMax 14 = 1 := rfl
set_option maxRecDepth 100000 in
theorem gr14 : gRet 14 = none := rfl
set_option maxRecDepth 100000 in
theorem gc15 : gCode 15 = cX2_addGap := rfl
set_option maxRecDepth 100000 in
theorem go15 : gOwn 15 = 2 := rfl
set_option maxRecDepth 100000 in
theorem ga15 : gArg 15 = 1 := rfl
set_option maxRecDepth 100000 in
theorem gs15 : gSta 15 = false := rfl
set_option maxRecDepth 100000 in
theorem gm15 : gMax 15 = 3 := rfl
set_option maxRecDepth 100000 in
theorem gr15 : gRet 15 = none := rfl
set_option maxRecDepth 100000 in
theorem gc16 : gCode 16 = cX2_addStitcher := rfl
set_option maxRecDepth 100000 in
theorem go16 : gOwn 16 = 2 := rfl
set_option maxRecDepth 100000 in
theorem ga16 : gArg 16 = 1 := rfl
set_option maxRecDepth 100000 in
theorem gs16 : gSta 16 = false := rfl
set_option maxRecDepth 100000 in
theorem gm16 : gMax 16 = 3 := rfl
set_option maxRecDepth 100000 in
theorem gr16 : gRet 16 = none := rfl
set_option maxRecDepth 100000 in
theorem gc17 : gCode 17 = cX2_addRain := rfl
set_option maxRecDepth 100000 in
theorem go17 : gOwn 17 = 2 := rfl
set_option maxRecDepth 100000 in
theorem ga17 : gArg 17 = 1 := rfl
set_option maxRecDepth 100000 in
theorem gs17 : gSta 17 = false := rfl
set_option maxRecDepth 100000 in
theorem gm17 : gMax 17 = 2 := rfl
set_option maxRecDepth 100000 in
theorem gr17 : gRet 17 = none := rfl
set_option maxRecDepth 100000 in
theorem gc18 : gCode 18 = cX2_ofGap := rfl
set_option maxRecDepth 100000 in
theorem go18 : gOwn 18 = 2 := rfl
set_option maxRecDepth 100000 in
theorem ga18 : gArg 18 = 2 := rfl
set_option maxRecDepth 100000 in
theorem gs18 : gSta 18 = false := rfl
set_option maxRecDepth 100000 in
theorem gm18 : gMax 18 = 4 := rfl
set_option maxRecDepth 100000 in
theorem gr18 : gRet 18 = (some .int) := rfl
set_option maxRecDepth 100000 in
theorem gc19 : gCode 19 = cX2_ofStitcher := rfl
set_option maxRecDepth 100000 in
theorem go19 : gOwn 19 = 2 := rfl
set_option maxRecDepth 100000 in
theorem ga19 : gArg 19 = 2 := rfl
set_option maxRecDepth 100000 in
theorem gs19 : gSta 19 = false := rfl
set_option maxRecDepth 100000 in
theorem gm19 : gMax 19 = 4 := rfl
set_option maxRecDepth 100000 in
theorem gr19 : gRet 19 = (some .int) := rfl
set_option maxRecDepth 100000 in
theorem gc20 : gCode 20 = cX2_isLight := rfl
set_option maxRecDepth 100000 in
theorem go20 : gOwn 20 = 2 := rfl
set_option maxRecDepth 100000 in
theorem ga20 : gArg 20 = 1 := rfl
set_option maxRecDepth 100000 in
theorem gs20 : gSta 20 = false := rfl
set_option maxRecDepth 100000 in
theorem gm20 : gMax 20 = 2 := rfl
set_option maxRecDepth 100000 in
theorem gr20 : gRet 20 = (some .boolean) := rfl
set_option maxRecDepth 100000 in
theorem gc21 : gCode 21 = cX2_lightLeft := rfl
set_option maxRecDepth 100000 in
theorem go21 : gOwn 21 = 2 := rfl
set_option maxRecDepth 100000 in
theorem ga21 : gArg 21 = 1 := rfl
set_option maxRecDepth 100000 in
theorem gs21 : gSta 21 = false := rfl
set_option maxRecDepth 100000 in
theorem gm21 : gMax 21 = 2 := rfl
set_option maxRecDepth 100000 in
theorem gr21 : gRet 21 = (some .int) := rfl
set_option maxRecDepth 100000 in
theorem gc22 : gCode 22 = cX2_rainsIn := rfl
set_option maxRecDepth 100000 in
theorem go22 : gOwn 22 = 2 := rfl
set_option maxRecDepth 100000 in
theorem ga22 : gArg 22 = 1 := rfl
set_option maxRecDepth 100000 in
theorem gs22 : gSta 22 = false := rfl
set_option maxRecDepth 100000 in
theorem gm22 : gMax 22 = 2 := rfl
set_option maxRecDepth 100000 in
theorem gr22 : gRet 22 = (some .boolean) := rfl
set_option maxRecDepth 100000 in
theorem gc23 : gCode 23 = cX2_sewnInHour := rfl
set_option maxRecDepth 100000 in
theorem go23 : gOwn 23 = 2 := rfl
set_option maxRecDepth 100000 in
theorem ga23 : gArg 23 = 2 := rfl
set_option maxRecDepth 100000 in
theorem gs23 : gSta 23 = false := rfl
set_option maxRecDepth 100000 in
theorem gm23 : gMax 23 = 5 := rfl
set_option maxRecDepth 100000 in
theorem gr23 : gRet 23 = (some .int) := rfl
set_option maxRecDepth 100000 in
theorem gc24 : gCode 24 = cX2_oneSeamOn := rfl
set_option maxRecDepth 100000 in
theorem go24 : gOwn 24 = 2 := rfl
set_option maxRecDepth 100000 in
theorem ga24 : gArg 24 = 2 := rfl
set_option maxRecDepth 100000 in
theorem gs24 : gSta 24 = false := rfl
set_option maxRecDepth 100000 in
theorem gm24 : gMax 24 = 6 := rfl
set_option maxRecDepth 100000 in
theorem gr24 : gRet 24 = (some .int) := rfl
set_option maxRecDepth 100000 in
theorem gc25 : gCode 25 = cX3_init := rfl
set_option maxRecDepth 100000 in
theorem go25 : gOwn 25 = 3 := rfl
set_option maxRecDepth 100000 in
theorem ga25 : gArg 25 = 0 := rfl
set_option maxRecDepth 100000 in
theorem gs25 : gSta 25 = false := rfl
set_option maxRecDepth 100000 in
theorem gm25 : gMax 25 = 1 := rfl
set_option maxRecDepth 100000 in
theorem gr25 : gRet 25 = none := rfl
set_option maxRecDepth 100000 in
theorem gc26 : gCode 26 = cX3_read := rfl
set_option maxRecDepth 100000 in
theorem go26 : gOwn 26 = 3 := rfl
set_option maxRecDepth 100000 in
theorem ga26 : gArg 26 = 3 := rfl
set_option maxRecDepth 100000 in
theorem gs26 : gSta 26 = false := rfl
set_option maxRecDepth 100000 in
theorem gm26 : gMax 26 = 6 := rfl
set_option maxRecDepth 100000 in
theorem gr26 : gRet 26 = (some .int) := rfl
set_option maxRecDepth 100000 in
theorem gc27 : gCode 27 = cX3_readNumbers := rfl
set_option maxRecDepth 100000 in
theorem go27 : gOwn 27 = 3 := rfl
set_option maxRecDepth 100000 in
theorem ga27 : gArg 27 = 3 := rfl
set_option maxRecDepth 100000 in
theorem gs27 : gSta 27 = false := rfl
set_option maxRecDepth 100000 in
theorem gm27 : gMax 27 = 9 := rfl
set_option maxRecDepth 100000 in
theorem gr27 : gRet 27 = (some .int) := rfl
set_option maxRecDepth 100000 in
theorem gc28 : gCode 28 = cX3_takeItem := rfl
set_option maxRecDepth 100000 in
theorem go28 : gOwn 28 = 3 := rfl
set_option maxRecDepth 100000 in
theorem ga28 : gArg 28 = 2 := rfl
set_option maxRecDepth 100000 in
theorem gs28 : gSta 28 = false := rfl
set_option maxRecDepth 100000 in
theorem gm28 : gMax 28 = 3 := rfl
set_option maxRecDepth 100000 in
theorem gr28 : gRet 28 = (some .boolean) := rfl
set_option maxRecDepth 100000 in
theorem gc29 : gCode 29 = cX3_takePieces := rfl
set_option maxRecDepth 100000 in
theorem go29 : gOwn 29 = 3 := rfl
set_option maxRecDepth 100000 in
theorem ga29 : gArg 29 = 1 := rfl
set_option maxRecDepth 100000 in
theorem gs29 : gSta 29 = false := rfl
set_option maxRecDepth 100000 in
theorem gm29 : gMax 29 = 2 := rfl
set_option maxRecDepth 100000 in
theorem gr29 : gRet 29 = (some .boolean) := rfl
set_option maxRecDepth 100000 in
theorem gc30 : gCode 30 = cX3_takeGap := rfl
set_option maxRecDepth 100000 in
theorem go30 : gOwn 30 = 3 := rfl
set_option maxRecDepth 100000 in
theorem ga30 : gArg 30 = 1 := rfl
set_option maxRecDepth 100000 in
theorem gs30 : gSta 30 = false := rfl
set_option maxRecDepth 100000 in
theorem gm30 : gMax 30 = 2 := rfl
set_option maxRecDepth 100000 in
theorem gr30 : gRet 30 = (some .boolean) := rfl
set_option maxRecDepth 100000 in
theorem gc31 : gCode 31 = cX3_takeStitcher := rfl
set_option maxRecDepth 100000 in
theorem go31 : gOwn 31 = 3 := rfl
set_option maxRecDepth 100000 in
theorem ga31 : gArg 31 = 1 := rfl
set_option maxRecDepth 100000 in
theorem gs31 : gSta 31 = false := rfl
set_option maxRecDepth 100000 in
theorem gm31 : gMax 31 = 2 := rfl
set_option maxRecDepth 100000 in
theorem gr31 : gRet 31 = (some .boolean) := rfl
set_option maxRecDepth 100000 in
theorem gc32 : gCode 32 = cX3_takeLight := rfl
set_option maxRecDepth 100000 in
theorem go32 : gOwn 32 = 3 := rfl
set_option maxRecDepth 100000 in
theorem ga32 : gArg 32 = 1 := rfl
set_option maxRecDepth 100000 in
theorem gs32 : gSta 32 = false := rfl
set_option maxRecDepth 100000 in
theorem gm32 : gMax 32 = 2 := rfl
set_option maxRecDepth 100000 in
theorem gr32 : gRet 32 = (some .boolean) := rfl
set_option maxRecDepth 100000 in
theorem gc33 : gCode 33 = cX3_takeRain := rfl
set_option maxRecDepth 100000 in
theorem go33 : gOwn 33 = 3 := rfl
set_option maxRecDepth 100000 in
theorem ga33 : gArg 33 = 1 := rfl
set_option maxRecDepth 100000 in
theorem gs33 : gSta 33 = false := rfl
set_option maxRecDepth 100000 in
theorem gm33 : gMax 33 = 2 := rfl
set_option maxRecDepth 100000 in
theorem gr33 : gRet 33 = (some .boolean) := rfl
set_option maxRecDepth 100000 in
theorem gc34 : gCode 34 = cX3_has := rfl
set_option maxRecDepth 100000 in
theorem go34 : gOwn 34 = 3 := rfl
set_option maxRecDepth 100000 in
theorem ga34 : gArg 34 = 3 := rfl
set_option maxRecDepth 100000 in
theorem gs34 : gSta 34 = false := rfl
set_option maxRecDepth 100000 in
theorem gm34 : gMax 34 = 4 := rfl
set_option maxRecDepth 100000 in
theorem gr34 : gRet 34 = (some .boolean) := rfl
set_option maxRecDepth 100000 in
theorem gc35 : gCode 35 = cX4_init := rfl
set_option maxRecDepth 100000 in
theorem go35 : gOwn 35 = 4 := rfl
set_option maxRecDepth 100000 in
theorem ga35 : gArg 35 = 0 := rfl
set_option maxRecDepth 100000 in
theorem gs35 : gSta 35 = false := rfl
set_option maxRecDepth 100000 in
theorem gm35 : gMax 35 = 2 := rfl
set_option maxRecDepth 100000 in
theorem gr35 : gRet 35 = none := rfl
set_option maxRecDepth 100000 in
theorem gc36 : gCode 36 = cX4_start := rfl
set_option maxRecDepth 100000 in
theorem go36 : gOwn 36 = 4 := rfl
set_option maxRecDepth 100000 in
theorem ga36 : gArg 36 = 3 := rfl
set_option maxRecDepth 100000 in
theorem gs36 : gSta 36 = false := rfl
set_option maxRecDepth 100000 in
theorem gm36 : gMax 36 = 5 := rfl
set_option maxRecDepth 100000 in
theorem gr36 : gRet 36 = none := rfl
set_option maxRecDepth 100000 in
theorem gc37 : gCode 37 = cX4_lengthen := rfl
set_option maxRecDepth 100000 in
theorem go37 : gOwn 37 = 4 := rfl
set_option maxRecDepth 100000 in
theorem ga37 : gArg 37 = 3 := rfl
set_option maxRecDepth 100000 in
theorem gs37 : gSta 37 = false := rfl
set_option maxRecDepth 100000 in
theorem gm37 : gMax 37 = 6 := rfl
set_option maxRecDepth 100000 in
theorem gr37 : gRet 37 = none := rfl
set_option maxRecDepth 100000 in
theorem gc38 : gCode 38 = cX4_tryNext := rfl
set_option maxRecDepth 100000 in
theorem go38 : gOwn 38 = 4 := rfl
set_option maxRecDepth 100000 in
theorem ga38 : gArg 38 = 5 := rfl
set_option maxRecDepth 100000 in
theorem gs38 : gSta 38 = false := rfl
set_option maxRecDepth 100000 in
theorem gm38 : gMax 38 = 8 := rfl
set_option maxRecDepth 100000 in
theorem gr38 : gRet 38 = none := rfl
set_option maxRecDepth 100000 in
theorem gc39 : gCode 39 = cX4_noteIfBetter := rfl
set_option maxRecDepth 100000 in
theorem go39 : gOwn 39 = 4 := rfl
set_option maxRecDepth 100000 in
theorem ga39 : gArg 39 = 2 := rfl
set_option maxRecDepth 100000 in
theorem gs39 : gSta 39 = false := rfl
set_option maxRecDepth 100000 in
theorem gm39 : gMax 39 = 4 := rfl
set_option maxRecDepth 100000 in
theorem gr39 : gRet 39 = none := rfl
set_option maxRecDepth 100000 in
theorem gc40 : gCode 40 = cX4_standingBehind := rfl
set_option maxRecDepth 100000 in
theorem go40 : gOwn 40 = 4 := rfl
set_option maxRecDepth 100000 in
theorem ga40 : gArg 40 = 1 := rfl
set_option maxRecDepth 100000 in
theorem gs40 : gSta 40 = false := rfl
set_option maxRecDepth 100000 in
theorem gm40 : gMax 40 = 2 := rfl
set_option maxRecDepth 100000 in
theorem gr40 : gRet 40 = (some (.object "SeamMere$Standing")) := rfl
set_option maxRecDepth 100000 in
theorem gc41 : gCode 41 = cX5_init := rfl
set_option maxRecDepth 100000 in
theorem go41 : gOwn 41 = 5 := rfl
set_option maxRecDepth 100000 in
theorem ga41 : gArg 41 = 0 := rfl
set_option maxRecDepth 100000 in
theorem gs41 : gSta 41 = false := rfl
set_option maxRecDepth 100000 in
theorem gm41 : gMax 41 = 1 := rfl
set_option maxRecDepth 100000 in
theorem gr41 : gRet 41 = none := rfl
set_option maxRecDepth 100000 in
theorem gc42 : gCode 42 = cX5_clear := rfl
set_option maxRecDepth 100000 in
theorem go42 : gOwn 42 = 5 := rfl
set_option maxRecDepth 100000 in
theorem ga42 : gArg 42 = 0 := rfl
set_option maxRecDepth 100000 in
theorem gs42 : gSta 42 = false := rfl
set_option maxRecDepth 100000 in
theorem gm42 : gMax 42 = 1 := rfl
set_option maxRecDepth 100000 in
theorem gr42 : gRet 42 = none := rfl
set_option maxRecDepth 100000 in
theorem gc43 : gCode 43 = cX5_add := rfl
set_option maxRecDepth 100000 in
theorem go43 : gOwn 43 = 5 := rfl
set_option maxRecDepth 100000 in
theorem ga43 : gArg 43 = 3 := rfl
set_option maxRecDepth 100000 in
theorem gs43 : gSta 43 = false := rfl
set_option maxRecDepth 100000 in
theorem gm43 : gMax 43 = 4 := rfl
set_option maxRecDepth 100000 in
theorem gr43 : gRet 43 = none := rfl
set_option maxRecDepth 100000 in
theorem gc44 : gCode 44 = cX5_weigh := rfl
set_option maxRecDepth 100000 in
theorem go44 : gOwn 44 = 5 := rfl
set_option maxRecDepth 100000 in
theorem ga44 : gArg 44 = 2 := rfl
set_option maxRecDepth 100000 in
theorem gs44 : gSta 44 = false := rfl
set_option maxRecDepth 100000 in
theorem gm44 : gMax 44 = 5 := rfl
set_option maxRecDepth 100000 in
theorem gr44 : gRet 44 = none := rfl
set_option maxRecDepth 100000 in
theorem gc45 : gCode 45 = cX5_clearWeights := rfl
set_option maxRecDepth 100000 in
theorem go45 : gOwn 45 = 5 := rfl
set_option maxRecDepth 100000 in
theorem ga45 : gArg 45 = 0 := rfl
set_option maxRecDepth 100000 in
theorem gs45 : gSta 45 = false := rfl
set_option maxRecDepth 100000 in
theorem gm45 : gMax 45 = 2 := rfl
set_option maxRecDepth 100000 in
theorem gr45 : gRet 45 = none := rfl
set_option maxRecDepth 100000 in
theorem gc46 : gCode 46 = cX5_fits := rfl
set_option maxRecDepth 100000 in
theorem go46 : gOwn 46 = 5 := rfl
set_option maxRecDepth 100000 in
theorem ga46 : gArg 46 = 1 := rfl
set_option maxRecDepth 100000 in
theorem gs46 : gSta 46 = false := rfl
set_option maxRecDepth 100000 in
theorem gm46 : gMax 46 = 3 := rfl
set_option maxRecDepth 100000 in
theorem gr46 : gRet 46 = (some .boolean) := rfl
set_option maxRecDepth 100000 in
theorem gc47 : gCode 47 = cX5_countPairs := rfl
set_option maxRecDepth 100000 in
theorem go47 : gOwn 47 = 5 := rfl
set_option maxRecDepth 100000 in
theorem ga47 : gArg 47 = 2 := rfl
set_option maxRecDepth 100000 in
theorem gs47 : gSta 47 = false := rfl
set_option maxRecDepth 100000 in
theorem gm47 : gMax 47 = 6 := rfl
set_option maxRecDepth 100000 in
theorem gr47 : gRet 47 = none := rfl
set_option maxRecDepth 100000 in
theorem gc48 : gCode 48 = cX5_choosePair := rfl
set_option maxRecDepth 100000 in
theorem go48 : gOwn 48 = 5 := rfl
set_option maxRecDepth 100000 in
theorem ga48 : gArg 48 = 1 := rfl
set_option maxRecDepth 100000 in
theorem gs48 : gSta 48 = false := rfl
set_option maxRecDepth 100000 in
theorem gm48 : gMax 48 = 6 := rfl
set_option maxRecDepth 100000 in
theorem gr48 : gRet 48 = none := rfl
set_option maxRecDepth 100000 in
theorem gc49 : gCode 49 = cX5_isSeen := rfl
set_option maxRecDepth 100000 in
theorem go49 : gOwn 49 = 5 := rfl
set_option maxRecDepth 100000 in
theorem ga49 : gArg 49 = 2 := rfl
set_option maxRecDepth 100000 in
theorem gs49 : gSta 49 = false := rfl
set_option maxRecDepth 100000 in
theorem gm49 : gMax 49 = 6 := rfl
set_option maxRecDepth 100000 in
theorem gr49 : gRet 49 = (some .boolean) := rfl
set_option maxRecDepth 100000 in
theorem gc50 : gCode 50 = cX6_init := rfl
set_option maxRecDepth 100000 in
theorem go50 : gOwn 50 = 6 := rfl
set_option maxRecDepth 100000 in
theorem ga50 : gArg 50 = 1 := rfl
set_option maxRecDepth 100000 in
theorem gs50 : gSta 50 = false := rfl
set_option maxRecDepth 100000 in
theorem gm50 : gMax 50 = 3 := rfl
set_option maxRecDepth 100000 in
theorem gr50 : gRet 50 = none := rfl
set_option maxRecDepth 100000 in
theorem gc51 : gCode 51 = cX6_clear := rfl
set_option maxRecDepth 100000 in
theorem go51 : gOwn 51 = 6 := rfl
set_option maxRecDepth 100000 in
theorem ga51 : gArg 51 = 0 := rfl
set_option maxRecDepth 100000 in
theorem gs51 : gSta 51 = false := rfl
set_option maxRecDepth 100000 in
theorem gm51 : gMax 51 = 1 := rfl
set_option maxRecDepth 100000 in
theorem gr51 : gRet 51 = none := rfl
set_option maxRecDepth 100000 in
theorem gc52 : gCode 52 = cX6_add := rfl
set_option maxRecDepth 100000 in
theorem go52 : gOwn 52 = 6 := rfl
set_option maxRecDepth 100000 in
theorem ga52 : gArg 52 = 1 := rfl
set_option maxRecDepth 100000 in
theorem gs52 : gSta 52 = false := rfl
set_option maxRecDepth 100000 in
theorem gm52 : gMax 52 = 3 := rfl
set_option maxRecDepth 100000 in
theorem gr52 : gRet 52 = none := rfl
set_option maxRecDepth 100000 in
theorem gc53 : gCode 53 = cX6_takeLast := rfl
set_option maxRecDepth 100000 in
theorem go53 : gOwn 53 = 6 := rfl
set_option maxRecDepth 100000 in
theorem ga53 : gArg 53 = 1 := rfl
set_option maxRecDepth 100000 in
theorem gs53 : gSta 53 = false := rfl
set_option maxRecDepth 100000 in
theorem gm53 : gMax 53 = 3 := rfl
set_option maxRecDepth 100000 in
theorem gr53 : gRet 53 = none := rfl
set_option maxRecDepth 100000 in
theorem gc54 : gCode 54 = cX6_standingAt := rfl
set_option maxRecDepth 100000 in
theorem go54 : gOwn 54 = 6 := rfl
set_option maxRecDepth 100000 in
theorem ga54 : gArg 54 = 1 := rfl
set_option maxRecDepth 100000 in
theorem gs54 : gSta 54 = false := rfl
set_option maxRecDepth 100000 in
theorem gm54 : gMax 54 = 3 := rfl
set_option maxRecDepth 100000 in
theorem gr54 : gRet 54 = (some (.object "SeamMere$Standing")) := rfl
set_option maxRecDepth 100000 in
theorem gc55 : gCode 55 = cX6_slotOf := rfl
set_option maxRecDepth 100000 in
theorem go55 : gOwn 55 = 6 := rfl
set_option maxRecDepth 100000 in
theorem ga55 : gArg 55 = 1 := rfl
set_option maxRecDepth 100000 in
theorem gs55 : gSta 55 = false := rfl
set_option maxRecDepth 100000 in
theorem gm55 : gMax 55 = 2 := rfl
set_option maxRecDepth 100000 in
theorem gr55 : gRet 55 = (some .int) := rfl
set_option maxRecDepth 100000 in
theorem gc56 : gCode 56 = cX7_init := rfl
set_option maxRecDepth 100000 in
theorem go56 : gOwn 56 = 7 := rfl
set_option maxRecDepth 100000 in
theorem ga56 : gArg 56 = 0 := rfl
set_option maxRecDepth 100000 in
theorem gs56 : gSta 56 = false := rfl
set_option maxRecDepth 100000 in
theorem gm56 : gMax 56 = 1 := rfl
set_option maxRecDepth 100000 in
theorem gr56 : gRet 56 = none := rfl
set_option maxRecDepth 100000 in
theorem gc57 : gCode 57 = cX7_begin := rfl
set_option maxRecDepth 100000 in
theorem go57 : gOwn 57 = 7 := rfl
set_option maxRecDepth 100000 in
theorem ga57 : gArg 57 = 1 := rfl
set_option maxRecDepth 100000 in
theorem gs57 : gSta 57 = false := rfl
set_option maxRecDepth 100000 in
theorem gm57 : gMax 57 = 3 := rfl
set_option maxRecDepth 100000 in
theorem gr57 : gRet 57 = none := rfl
set_option maxRecDepth 100000 in
theorem gc58 : gCode 58 = cX7_copyFrom := rfl
set_option maxRecDepth 100000 in
theorem go58 : gOwn 58 = 7 := rfl
set_option maxRecDepth 100000 in
theorem ga58 : gArg 58 = 1 := rfl
set_option maxRecDepth 100000 in
theorem gs58 : gSta 58 = false := rfl
set_option maxRecDepth 100000 in
theorem gm58 : gMax 58 = 3 := rfl
set_option maxRecDepth 100000 in
theorem gr58 : gRet 58 = none := rfl
set_option maxRecDepth 100000 in
theorem gc59 : gCode 59 = cX7_stitchesOf := rfl
set_option maxRecDepth 100000 in
theorem go59 : gOwn 59 = 7 := rfl
set_option maxRecDepth 100000 in
theorem ga59 : gArg 59 = 1 := rfl
set_option maxRecDepth 100000 in
theorem gs59 : gSta 59 = false := rfl
set_option maxRecDepth 100000 in
theorem gm59 : gMax 59 = 2 := rfl
set_option maxRecDepth 100000 in
theorem gr59 : gRet 59 = (some .int) := rfl
set_option maxRecDepth 100000 in
theorem gc60 : gCode 60 = cX7_placeOf := rfl
set_option maxRecDepth 100000 in
theorem go60 : gOwn 60 = 7 := rfl
set_option maxRecDepth 100000 in
theorem ga60 : gArg 60 = 1 := rfl
set_option maxRecDepth 100000 in
theorem gs60 : gSta 60 = false := rfl
set_option maxRecDepth 100000 in
theorem gm60 : gMax 60 = 2 := rfl
set_option maxRecDepth 100000 in
theorem gr60 : gRet 60 = (some .int) := rfl
set_option maxRecDepth 100000 in
theorem gc61 : gCode 61 = cX7_goalOf := rfl
set_option maxRecDepth 100000 in
theorem go61 : gOwn 61 = 7 := rfl
set_option maxRecDepth 100000 in
theorem ga61 : gArg 61 = 1 := rfl
set_option maxRecDepth 100000 in
theorem gs61 : gSta 61 = false := rfl
set_option maxRecDepth 100000 in
theorem gm61 : gMax 61 = 2 := rfl
set_option maxRecDepth 100000 in
theorem gr61 : gRet 61 = (some .int) := rfl
set_option maxRecDepth 100000 in
theorem gc62 : gCode 62 = cX7_isClosed := rfl
set_option maxRecDepth 100000 in
theorem go62 : gOwn 62 = 7 := rfl
set_option maxRecDepth 100000 in
theorem ga62 : gArg 62 = 2 := rfl
set_option maxRecDepth 100000 in
theorem gs62 : gSta 62 = false := rfl
set_option maxRecDepth 100000 in
theorem gm62 : gMax 62 = 3 := rfl
set_option maxRecDepth 100000 in
theorem gr62 : gRet 62 = (some .boolean) := rfl
set_option maxRecDepth 100000 in
theorem gc63 : gCode 63 = cX7_closedBits := rfl
set_option maxRecDepth 100000 in
theorem go63 : gOwn 63 = 7 := rfl
set_option maxRecDepth 100000 in
theorem ga63 : gArg 63 = 1 := rfl
set_option maxRecDepth 100000 in
theorem gs63 : gSta 63 = false := rfl
set_option maxRecDepth 100000 in
theorem gm63 : gMax 63 = 4 := rfl
set_option maxRecDepth 100000 in
theorem gr63 : gRet 63 = (some .int) := rfl
set_option maxRecDepth 100000 in
theorem gc64 : gCode 64 = cX7_allStitches := rfl
set_option maxRecDepth 100000 in
theorem go64 : gOwn 64 = 7 := rfl
set_option maxRecDepth 100000 in
theorem ga64 : gArg 64 = 1 := rfl
set_option maxRecDepth 100000 in
theorem gs64 : gSta 64 = false := rfl
set_option maxRecDepth 100000 in
theorem gm64 : gMax 64 = 4 := rfl
set_option maxRecDepth 100000 in
theorem gr64 : gRet 64 = (some .int) := rfl
set_option maxRecDepth 100000 in
theorem gc65 : gCode 65 = cX7_sentOnes := rfl
set_option maxRecDepth 100000 in
theorem go65 : gOwn 65 = 7 := rfl
set_option maxRecDepth 100000 in
theorem ga65 : gArg 65 = 1 := rfl
set_option maxRecDepth 100000 in
theorem gs65 : gSta 65 = false := rfl
set_option maxRecDepth 100000 in
theorem gm65 : gMax 65 = 4 := rfl
set_option maxRecDepth 100000 in
theorem gr65 : gRet 65 = (some .int) := rfl
set_option maxRecDepth 100000 in
theorem gc66 : gCode 66 = cX7_aim := rfl
set_option maxRecDepth 100000 in
theorem go66 : gOwn 66 = 7 := rfl
set_option maxRecDepth 100000 in
theorem ga66 : gArg 66 = 2 := rfl
set_option maxRecDepth 100000 in
theorem gs66 : gSta 66 = false := rfl
set_option maxRecDepth 100000 in
theorem gm66 : gMax 66 = 3 := rfl
set_option maxRecDepth 100000 in
theorem gr66 : gRet 66 = none := rfl
set_option maxRecDepth 100000 in
theorem gc67 : gCode 67 = cX7_callAllOff := rfl
set_option maxRecDepth 100000 in
theorem go67 : gOwn 67 = 7 := rfl
set_option maxRecDepth 100000 in
theorem ga67 : gArg 67 = 0 := rfl
set_option maxRecDepth 100000 in
theorem gs67 : gSta 67 = false := rfl
set_option maxRecDepth 100000 in
theorem gm67 : gMax 67 = 2 := rfl
set_option maxRecDepth 100000 in
theorem gr67 : gRet 67 = none := rfl
set_option maxRecDepth 100000 in
theorem gc68 : gCode 68 = cX7_cutOpen := rfl
set_option maxRecDepth 100000 in
theorem go68 : gOwn 68 = 7 := rfl
set_option maxRecDepth 100000 in
theorem ga68 : gArg 68 = 1 := rfl
set_option maxRecDepth 100000 in
theorem gs68 : gSta 68 = false := rfl
set_option maxRecDepth 100000 in
theorem gm68 : gMax 68 = 2 := rfl
set_option maxRecDepth 100000 in
theorem gr68 : gRet 68 = none := rfl
set_option maxRecDepth 100000 in
theorem gc69 : gCode 69 = cX7_liveThrough := rfl
set_option maxRecDepth 100000 in
theorem go69 : gOwn 69 = 7 := rfl
set_option maxRecDepth 100000 in
theorem ga69 : gArg 69 = 2 := rfl
set_option maxRecDepth 100000 in
theorem gs69 : gSta 69 = false := rfl
set_option maxRecDepth 100000 in
theorem gm69 : gMax 69 = 4 := rfl
set_option maxRecDepth 100000 in
theorem gr69 : gRet 69 = none := rfl
set_option maxRecDepth 100000 in
theorem gc70 : gCode 70 = cX7_closeWithin := rfl
set_option maxRecDepth 100000 in
theorem go70 : gOwn 70 = 7 := rfl
set_option maxRecDepth 100000 in
theorem ga70 : gArg 70 = 3 := rfl
set_option maxRecDepth 100000 in
theorem gs70 : gSta 70 = false := rfl
set_option maxRecDepth 100000 in
theorem gm70 : gMax 70 = 5 := rfl
set_option maxRecDepth 100000 in
theorem gr70 : gRet 70 = (some .int) := rfl
set_option maxRecDepth 100000 in
theorem gc71 : gCode 71 = cX7_liveHour := rfl
set_option maxRecDepth 100000 in
theorem go71 : gOwn 71 = 7 := rfl
set_option maxRecDepth 100000 in
theorem ga71 : gArg 71 = 2 := rfl
set_option maxRecDepth 100000 in
theorem gs71 : gSta 71 = false := rfl
set_option maxRecDepth 100000 in
theorem gm71 : gMax 71 = 4 := rfl
set_option maxRecDepth 100000 in
theorem gr71 : gRet 71 = none := rfl
set_option maxRecDepth 100000 in
theorem gc72 : gCode 72 = cX7_flyOrSew := rfl
set_option maxRecDepth 100000 in
theorem go72 : gOwn 72 = 7 := rfl
set_option maxRecDepth 100000 in
theorem ga72 : gArg 72 = 2 := rfl
set_option maxRecDepth 100000 in
theorem gs72 : gSta 72 = false := rfl
set_option maxRecDepth 100000 in
theorem gm72 : gMax 72 = 7 := rfl
set_option maxRecDepth 100000 in
theorem gr72 : gRet 72 = none := rfl
set_option maxRecDepth 100000 in
theorem gc73 : gCode 73 = cX7_callOffFrom := rfl
set_option maxRecDepth 100000 in
theorem go73 : gOwn 73 = 7 := rfl
set_option maxRecDepth 100000 in
theorem ga73 : gArg 73 = 1 := rfl
set_option maxRecDepth 100000 in
theorem gs73 : gSta 73 = false := rfl
set_option maxRecDepth 100000 in
theorem gm73 : gMax 73 = 3 := rfl
set_option maxRecDepth 100000 in
theorem gr73 : gRet 73 = none := rfl
set_option maxRecDepth 100000 in
theorem gc74 : gCode 74 = cX7_unpick := rfl
set_option maxRecDepth 100000 in
theorem go74 : gOwn 74 = 7 := rfl
set_option maxRecDepth 100000 in
theorem ga74 : gArg 74 = 1 := rfl
set_option maxRecDepth 100000 in
theorem gs74 : gSta 74 = false := rfl
set_option maxRecDepth 100000 in
theorem gm74 : gMax 74 = 4 := rfl
set_option maxRecDepth 100000 in
theorem gr74 : gRet 74 = none := rfl
set_option maxRecDepth 100000 in
theorem gc75 : gCode 75 = cX8_init := rfl
set_option maxRecDepth 100000 in
theorem go75 : gOwn 75 = 8 := rfl
set_option maxRecDepth 100000 in
theorem ga75 : gArg 75 = 0 := rfl
set_option maxRecDepth 100000 in
theorem gs75 : gSta 75 = false := rfl
set_option maxRecDepth 100000 in
theorem gm75 : gMax 75 = 3 := rfl
set_option maxRecDepth 100000 in
theorem gr75 : gRet 75 = none := rfl
set_option maxRecDepth 100000 in
theorem gc76 : gCode 76 = cX8_write := rfl
set_option maxRecDepth 100000 in
theorem go76 : gOwn 76 = 8 := rfl
set_option maxRecDepth 100000 in
theorem ga76 : gArg 76 = 1 := rfl
set_option maxRecDepth 100000 in
theorem gs76 : gSta 76 = false := rfl
set_option maxRecDepth 100000 in
theorem gm76 : gMax 76 = 2 := rfl
set_option maxRecDepth 100000 in
theorem gr76 : gRet 76 = (some .int) := rfl
set_option maxRecDepth 100000 in
theorem gc77 : gCode 77 = cX8_wipe := rfl
set_option maxRecDepth 100000 in
theorem go77 : gOwn 77 = 8 := rfl
set_option maxRecDepth 100000 in
theorem ga77 : gArg 77 = 0 := rfl
set_option maxRecDepth 100000 in
theorem gs77 : gSta 77 = false := rfl
set_option maxRecDepth 100000 in
theorem gm77 : gMax 77 = 2 := rfl
set_option maxRecDepth 100000 in
theorem gr77 : gRet 77 = (some .int) := rfl
set_option maxRecDepth 100000 in
theorem gc78 : gCode 78 = cX8_fault := rfl
set_option maxRecDepth 100000 in
theorem go78 : gOwn 78 = 8 := rfl
set_option maxRecDepth 100000 in
theorem ga78 : gArg 78 = 0 := rfl
set_option maxRecDepth 100000 in
theorem gs78 : gSta 78 = false := rfl
set_option maxRecDepth 100000 in
theorem gm78 : gMax 78 = 1 := rfl
set_option maxRecDepth 100000 in
theorem gr78 : gRet 78 = (some .int) := rfl
set_option maxRecDepth 100000 in
theorem gc79 : gCode 79 = cX8_lay := rfl
set_option maxRecDepth 100000 in
theorem go79 : gOwn 79 = 8 := rfl
set_option maxRecDepth 100000 in
theorem ga79 : gArg 79 = 0 := rfl
set_option maxRecDepth 100000 in
theorem gs79 : gSta 79 = false := rfl
set_option maxRecDepth 100000 in
theorem gm79 : gMax 79 = 2 := rfl
set_option maxRecDepth 100000 in
theorem gr79 : gRet 79 = (some .int) := rfl
set_option maxRecDepth 100000 in
theorem gc80 : gCode 80 = cX8_gap := rfl
set_option maxRecDepth 100000 in
theorem go80 : gOwn 80 = 8 := rfl
set_option maxRecDepth 100000 in
theorem ga80 : gArg 80 = 2 := rfl
set_option maxRecDepth 100000 in
theorem gs80 : gSta 80 = false := rfl
set_option maxRecDepth 100000 in
theorem gm80 : gMax 80 = 3 := rfl
set_option maxRecDepth 100000 in
theorem gr80 : gRet 80 = (some .int) := rfl
set_option maxRecDepth 100000 in
theorem gc81 : gCode 81 = cX8_stitcher := rfl
set_option maxRecDepth 100000 in
theorem go81 : gOwn 81 = 8 := rfl
set_option maxRecDepth 100000 in
theorem ga81 : gArg 81 = 2 := rfl
set_option maxRecDepth 100000 in
theorem gs81 : gSta 81 = false := rfl
set_option maxRecDepth 100000 in
theorem gm81 : gMax 81 = 3 := rfl
set_option maxRecDepth 100000 in
theorem gr81 : gRet 81 = (some .int) := rfl
set_option maxRecDepth 100000 in
theorem gc82 : gCode 82 = cX8_sky := rfl
set_option maxRecDepth 100000 in
theorem go82 : gOwn 82 = 8 := rfl
set_option maxRecDepth 100000 in
theorem ga82 : gArg 82 = 2 := rfl
set_option maxRecDepth 100000 in
theorem gs82 : gSta 82 = false := rfl
set_option maxRecDepth 100000 in
theorem gm82 : gMax 82 = 4 := rfl
set_option maxRecDepth 100000 in
theorem gr82 : gRet 82 = (some .int) := rfl
set_option maxRecDepth 100000 in
theorem gc83 : gCode 83 = cX8_together := rfl
set_option maxRecDepth 100000 in
theorem go83 : gOwn 83 = 8 := rfl
set_option maxRecDepth 100000 in
theorem ga83 : gArg 83 = 2 := rfl
set_option maxRecDepth 100000 in
theorem gs83 : gSta 83 = false := rfl
set_option maxRecDepth 100000 in
theorem gm83 : gMax 83 = 3 := rfl
set_option maxRecDepth 100000 in
theorem gr83 : gRet 83 = (some .int) := rfl
set_option maxRecDepth 100000 in
theorem gc84 : gCode 84 = cX8_send := rfl
set_option maxRecDepth 100000 in
theorem go84 : gOwn 84 = 8 := rfl
set_option maxRecDepth 100000 in
theorem ga84 : gArg 84 = 2 := rfl
set_option maxRecDepth 100000 in
theorem gs84 : gSta 84 = false := rfl
set_option maxRecDepth 100000 in
theorem gm84 : gMax 84 = 5 := rfl
set_option maxRecDepth 100000 in
theorem gr84 : gRet 84 = (some .int) := rfl
set_option maxRecDepth 100000 in
theorem gc85 : gCode 85 = cX8_pass := rfl
set_option maxRecDepth 100000 in
theorem go85 : gOwn 85 = 8 := rfl
set_option maxRecDepth 100000 in
theorem ga85 : gArg 85 = 1 := rfl
set_option maxRecDepth 100000 in
theorem gs85 : gSta 85 = false := rfl
set_option maxRecDepth 100000 in
theorem gm85 : gMax 85 = 2 := rfl
set_option maxRecDepth 100000 in
theorem gr85 : gRet 85 = (some .int) := rfl
set_option maxRecDepth 100000 in
theorem gc86 : gCode 86 = cX8_frog := rfl
set_option maxRecDepth 100000 in
theorem go86 : gOwn 86 = 8 := rfl
set_option maxRecDepth 100000 in
theorem ga86 : gArg 86 = 1 := rfl
set_option maxRecDepth 100000 in
theorem gs86 : gSta 86 = false := rfl
set_option maxRecDepth 100000 in
theorem gm86 : gMax 86 = 2 := rfl
set_option maxRecDepth 100000 in
theorem gr86 : gRet 86 = (some .int) := rfl
set_option maxRecDepth 100000 in
theorem gc87 : gCode 87 = cX8_undo := rfl
set_option maxRecDepth 100000 in
theorem go87 : gOwn 87 = 8 := rfl
set_option maxRecDepth 100000 in
theorem ga87 : gArg 87 = 0 := rfl
set_option maxRecDepth 100000 in
theorem gs87 : gSta 87 = false := rfl
set_option maxRecDepth 100000 in
theorem gm87 : gMax 87 = 1 := rfl
set_option maxRecDepth 100000 in
theorem gr87 : gRet 87 = (some .int) := rfl
set_option maxRecDepth 100000 in
theorem gc88 : gCode 88 = cX8_closes := rfl
set_option maxRecDepth 100000 in
theorem go88 : gOwn 88 = 8 := rfl
set_option maxRecDepth 100000 in
theorem ga88 : gArg 88 = 1 := rfl
set_option maxRecDepth 100000 in
theorem gs88 : gSta 88 = false := rfl
set_option maxRecDepth 100000 in
theorem gm88 : gMax 88 = 2 := rfl
set_option maxRecDepth 100000 in
theorem gr88 : gRet 88 = (some .int) := rfl
set_option maxRecDepth 100000 in
theorem gc89 : gCode 89 = cX8_dusk := rfl
set_option maxRecDepth 100000 in
theorem go89 : gOwn 89 = 8 := rfl
set_option maxRecDepth 100000 in
theorem ga89 : gArg 89 = 0 := rfl
set_option maxRecDepth 100000 in
theorem gs89 : gSta 89 = false := rfl
set_option maxRecDepth 100000 in
theorem gm89 : gMax 89 = 1 := rfl
set_option maxRecDepth 100000 in
theorem gr89 : gRet 89 = (some .int) := rfl
set_option maxRecDepth 100000 in
theorem gc90 : gCode 90 = cX8_order := rfl
set_option maxRecDepth 100000 in
theorem go90 : gOwn 90 = 8 := rfl
set_option maxRecDepth 100000 in
theorem ga90 : gArg 90 = 3 := rfl
set_option maxRecDepth 100000 in
theorem gs90 : gSta 90 = false := rfl
set_option maxRecDepth 100000 in
theorem gm90 : gMax 90 = 4 := rfl
set_option maxRecDepth 100000 in
theorem gr90 : gRet 90 = (some .int) := rfl
set_option maxRecDepth 100000 in
theorem gc91 : gCode 91 = cX8_deal := rfl
set_option maxRecDepth 100000 in
theorem go91 : gOwn 91 = 8 := rfl
set_option maxRecDepth 100000 in
theorem ga91 : gArg 91 = 2 := rfl
set_option maxRecDepth 100000 in
theorem gs91 : gSta 91 = false := rfl
set_option maxRecDepth 100000 in
theorem gm91 : gMax 91 = 3 := rfl
set_option maxRecDepth 100000 in
theorem gr91 : gRet 91 = (some .int) := rfl
set_option maxRecDepth 100000 in
theorem gc92 : gCode 92 = cX8_cut := rfl
set_option maxRecDepth 100000 in
theorem go92 : gOwn 92 = 8 := rfl
set_option maxRecDepth 100000 in
theorem ga92 : gArg 92 = 2 := rfl
set_option maxRecDepth 100000 in
theorem gs92 : gSta 92 = false := rfl
set_option maxRecDepth 100000 in
theorem gm92 : gMax 92 = 7 := rfl
set_option maxRecDepth 100000 in
theorem gr92 : gRet 92 = (some .int) := rfl
set_option maxRecDepth 100000 in
theorem gc93 : gCode 93 = cX8_between := rfl
set_option maxRecDepth 100000 in
theorem go93 : gOwn 93 = 8 := rfl
set_option maxRecDepth 100000 in
theorem ga93 : gArg 93 = 2 := rfl
set_option maxRecDepth 100000 in
theorem gs93 : gSta 93 = false := rfl
set_option maxRecDepth 100000 in
theorem gm93 : gMax 93 = 7 := rfl
set_option maxRecDepth 100000 in
theorem gr93 : gRet 93 = (some .int) := rfl
set_option maxRecDepth 100000 in
theorem gc94 : gCode 94 = cX8_joins := rfl
set_option maxRecDepth 100000 in
theorem go94 : gOwn 94 = 8 := rfl
set_option maxRecDepth 100000 in
theorem ga94 : gArg 94 = 1 := rfl
set_option maxRecDepth 100000 in
theorem gs94 : gSta 94 = false := rfl
set_option maxRecDepth 100000 in
theorem gm94 : gMax 94 = 6 := rfl
set_option maxRecDepth 100000 in
theorem gr94 : gRet 94 = (some .int) := rfl
set_option maxRecDepth 100000 in
theorem gc95 : gCode 95 = cX8_see := rfl
set_option maxRecDepth 100000 in
theorem go95 : gOwn 95 = 8 := rfl
set_option maxRecDepth 100000 in
theorem ga95 : gArg 95 = 3 := rfl
set_option maxRecDepth 100000 in
theorem gs95 : gSta 95 = false := rfl
set_option maxRecDepth 100000 in
theorem gm95 : gMax 95 = 4 := rfl
set_option maxRecDepth 100000 in
theorem gr95 : gRet 95 = (some .int) := rfl
set_option maxRecDepth 100000 in
theorem gc96 : gCode 96 = cX8_forget := rfl
set_option maxRecDepth 100000 in
theorem go96 : gOwn 96 = 8 := rfl
set_option maxRecDepth 100000 in
theorem ga96 : gArg 96 = 0 := rfl
set_option maxRecDepth 100000 in
theorem gs96 : gSta 96 = false := rfl
set_option maxRecDepth 100000 in
theorem gm96 : gMax 96 = 2 := rfl
set_option maxRecDepth 100000 in
theorem gr96 : gRet 96 = (some .int) := rfl
set_option maxRecDepth 100000 in
theorem gc97 : gCode 97 = cX8_seamed := rfl
set_option maxRecDepth 100000 in
theorem go97 : gOwn 97 = 8 := rfl
set_option maxRecDepth 100000 in
theorem ga97 : gArg 97 = 1 := rfl
set_option maxRecDepth 100000 in
theorem gs97 : gSta 97 = false := rfl
set_option maxRecDepth 100000 in
theorem gm97 : gMax 97 = 2 := rfl
set_option maxRecDepth 100000 in
theorem gr97 : gRet 97 = (some .int) := rfl
set_option maxRecDepth 100000 in
theorem gc98 : gCode 98 = cX8_tells := rfl
set_option maxRecDepth 100000 in
theorem go98 : gOwn 98 = 8 := rfl
set_option maxRecDepth 100000 in
theorem ga98 : gArg 98 = 1 := rfl
set_option maxRecDepth 100000 in
theorem gs98 : gSta 98 = false := rfl
set_option maxRecDepth 100000 in
theorem gm98 : gMax 98 = 2 := rfl
set_option maxRecDepth 100000 in
theorem gr98 : gRet 98 = (some .int) := rfl
set_option maxRecDepth 100000 in
theorem gc99 : gCode 99 = cX8_showers := rfl
set_option maxRecDepth 100000 in
theorem go99 : gOwn 99 = 8 := rfl
set_option maxRecDepth 100000 in
theorem ga99 : gArg 99 = 4 := rfl
set_option maxRecDepth 100000 in
theorem gs99 : gSta 99 = false := rfl
set_option maxRecDepth 100000 in
theorem gm99 : gMax 99 = 9 := rfl
set_option maxRecDepth 100000 in
theorem gr99 : gRet 99 = (some .int) := rfl
set_option maxRecDepth 100000 in
theorem gc100 : gCode 100 = cX8_summer := rfl
set_option maxRecDepth 100000 in
theorem go100 : gOwn 100 = 8 := rfl
set_option maxRecDepth 100000 in
theorem ga100 : gArg 100 = 3 := rfl
set_option maxRecDepth 100000 in
theorem gs100 : gSta 100 = false := rfl
set_option maxRecDepth 100000 in
theorem gm100 : gMax 100 = 5 := rfl
set_option maxRecDepth 100000 in
theorem gr100 : gRet 100 = (some .int) := rfl
set_option maxRecDepth 100000 in
theorem gc101 : gCode 101 = cX8_keep := rfl
set_option maxRecDepth 100000 in
theorem go101 : gOwn 101 = 8 := rfl
set_option maxRecDepth 100000 in
theorem ga101 : gArg 101 = 0 := rfl
set_option maxRecDepth 100000 in
theorem gs101 : gSta 101 = false := rfl
set_option maxRecDepth 100000 in
theorem gm101 : gMax 101 = 1 := rfl
set_option maxRecDepth 100000 in
theorem gr101 : gRet 101 = (some .int) := rfl
set_option maxRecDepth 100000 in
theorem gc102 : gCode 102 = cX8_back := rfl
set_option maxRecDepth 100000 in
theorem go102 : gOwn 102 = 8 := rfl
set_option maxRecDepth 100000 in
theorem ga102 : gArg 102 = 0 := rfl
set_option maxRecDepth 100000 in
theorem gs102 : gSta 102 = false := rfl
set_option maxRecDepth 100000 in
theorem gm102 : gMax 102 = 1 := rfl
set_option maxRecDepth 100000 in
theorem gr102 : gRet 102 = (some .int) := rfl
set_option maxRecDepth 100000 in
theorem gc103 : gCode 103 = cX8_count := rfl
set_option maxRecDepth 100000 in
theorem go103 : gOwn 103 = 8 := rfl
set_option maxRecDepth 100000 in
theorem ga103 : gArg 103 = 1 := rfl
set_option maxRecDepth 100000 in
theorem gs103 : gSta 103 = false := rfl
set_option maxRecDepth 100000 in
theorem gm103 : gMax 103 = 2 := rfl
set_option maxRecDepth 100000 in
theorem gr103 : gRet 103 = (some .int) := rfl
set_option maxRecDepth 100000 in
theorem gc104 : gCode 104 = cX8_beginAnew := rfl
set_option maxRecDepth 100000 in
theorem go104 : gOwn 104 = 8 := rfl
set_option maxRecDepth 100000 in
theorem ga104 : gArg 104 = 0 := rfl
set_option maxRecDepth 100000 in
theorem gs104 : gSta 104 = false := rfl
set_option maxRecDepth 100000 in
theorem gm104 : gMax 104 = 1 := rfl
set_option maxRecDepth 100000 in
theorem gr104 : gRet 104 = none := rfl
set_option maxRecDepth 100000 in
theorem gc105 : gCode 105 = cX8_isGap := rfl
set_option maxRecDepth 100000 in
theorem go105 : gOwn 105 = 8 := rfl
set_option maxRecDepth 100000 in
theorem ga105 : gArg 105 = 1 := rfl
set_option maxRecDepth 100000 in
theorem gs105 : gSta 105 = false := rfl
set_option maxRecDepth 100000 in
theorem gm105 : gMax 105 = 2 := rfl
set_option maxRecDepth 100000 in
theorem gr105 : gRet 105 = (some .boolean) := rfl
set_option maxRecDepth 100000 in
theorem gc106 : gCode 106 = cX8_isStitcher := rfl
set_option maxRecDepth 100000 in
theorem go106 : gOwn 106 = 8 := rfl
set_option maxRecDepth 100000 in
theorem ga106 : gArg 106 = 1 := rfl
set_option maxRecDepth 100000 in
theorem gs106 : gSta 106 = false := rfl
set_option maxRecDepth 100000 in
theorem gm106 : gMax 106 = 2 := rfl
set_option maxRecDepth 100000 in
theorem gr106 : gRet 106 = (some .boolean) := rfl
set_option maxRecDepth 100000 in
theorem gc107 : gCode 107 = cX8_isPiece := rfl
set_option maxRecDepth 100000 in
theorem go107 : gOwn 107 = 8 := rfl
set_option maxRecDepth 100000 in
theorem ga107 : gArg 107 = 1 := rfl
set_option maxRecDepth 100000 in
theorem gs107 : gSta 107 = false := rfl
set_option maxRecDepth 100000 in
theorem gm107 : gMax 107 = 2 := rfl
set_option maxRecDepth 100000 in
theorem gr107 : gRet 107 = (some .boolean) := rfl
set_option maxRecDepth 100000 in
theorem gc108 : gCode 108 = cX8_weightOf := rfl
set_option maxRecDepth 100000 in
theorem go108 : gOwn 108 = 8 := rfl
set_option maxRecDepth 100000 in
theorem ga108 : gArg 108 = 3 := rfl
set_option maxRecDepth 100000 in
theorem gs108 : gSta 108 = true := rfl
set_option maxRecDepth 100000 in
theorem gm108 : gMax 108 = 5 := rfl
set_option maxRecDepth 100000 in
theorem gr108 : gRet 108 = (some .int) := rfl
set_option maxRecDepth 100000 in
theorem gc109 : gCode 109 = cX8_isClosedBehind := rfl
set_option maxRecDepth 100000 in
theorem go109 : gOwn 109 = 8 := rfl
set_option maxRecDepth 100000 in
theorem ga109 : gArg 109 = 3 := rfl
set_option maxRecDepth 100000 in
theorem gs109 : gSta 109 = false := rfl
set_option maxRecDepth 100000 in
theorem gm109 : gMax 109 = 5 := rfl
set_option maxRecDepth 100000 in
theorem gr109 : gRet 109 = (some .boolean) := rfl
set_option maxRecDepth 100000 in
theorem gc110 : gCode 110 = cX8_drawOf := rfl
set_option maxRecDepth 100000 in
theorem go110 : gOwn 110 = 8 := rfl
set_option maxRecDepth 100000 in
theorem ga110 : gArg 110 = 2 := rfl
set_option maxRecDepth 100000 in
theorem gs110 : gSta 110 = true := rfl
set_option maxRecDepth 100000 in
theorem gm110 : gMax 110 = 4 := rfl
set_option maxRecDepth 100000 in
theorem gr110 : gRet 110 = (some .int) := rfl
set_option maxRecDepth 100000 in
theorem gc111 : gCode 111 = cX8_actByDraw := rfl
set_option maxRecDepth 100000 in
theorem go111 : gOwn 111 = 8 := rfl
set_option maxRecDepth 100000 in
theorem ga111 : gArg 111 = 1 := rfl
set_option maxRecDepth 100000 in
theorem gs111 : gSta 111 = false := rfl
set_option maxRecDepth 100000 in
theorem gm111 : gMax 111 = 4 := rfl
set_option maxRecDepth 100000 in
theorem gr111 : gRet 111 = none := rfl
set_option maxRecDepth 100000 in
theorem gc112 : gCode 112 = cX8_commonDivisor := rfl
set_option maxRecDepth 100000 in
theorem go112 : gOwn 112 = 8 := rfl
set_option maxRecDepth 100000 in
theorem ga112 : gArg 112 = 2 := rfl
set_option maxRecDepth 100000 in
theorem gs112 : gSta 112 = true := rfl
set_option maxRecDepth 100000 in
theorem gm112 : gMax 112 = 6 := rfl
set_option maxRecDepth 100000 in
theorem gr112 : gRet 112 = (some .int) := rfl
set_option maxRecDepth 100000 in
theorem gc113 : gCode 113 = cX8_isIn := rfl
set_option maxRecDepth 100000 in
theorem go113 : gOwn 113 = 8 := rfl
set_option maxRecDepth 100000 in
theorem ga113 : gArg 113 = 3 := rfl
set_option maxRecDepth 100000 in
theorem gs113 : gSta 113 = true := rfl
set_option maxRecDepth 100000 in
theorem gm113 : gMax 113 = 3 := rfl
set_option maxRecDepth 100000 in
theorem gr113 : gRet 113 = (some .boolean) := rfl
set_option maxRecDepth 100000 in
theorem gc114 : gCode 114 = cX8_isBit := rfl
set_option maxRecDepth 100000 in
theorem go114 : gOwn 114 = 8 := rfl
set_option maxRecDepth 100000 in
theorem ga114 : gArg 114 = 2 := rfl
set_option maxRecDepth 100000 in
theorem gs114 : gSta 114 = true := rfl
set_option maxRecDepth 100000 in
theorem gm114 : gMax 114 = 2 := rfl
set_option maxRecDepth 100000 in
theorem gr114 : gRet 114 = (some .boolean) := rfl
set_option maxRecDepth 100000 in
theorem gc115 : gCode 115 = cX8_bitOf := rfl
set_option maxRecDepth 100000 in
theorem go115 : gOwn 115 = 8 := rfl
set_option maxRecDepth 100000 in
theorem ga115 : gArg 115 = 2 := rfl
set_option maxRecDepth 100000 in
theorem gs115 : gSta 115 = true := rfl
set_option maxRecDepth 100000 in
theorem gm115 : gMax 115 = 2 := rfl
set_option maxRecDepth 100000 in
theorem gr115 : gRet 115 = (some .int) := rfl
set_option maxRecDepth 100000 in
theorem gc116 : gCode 116 = cX8_asNumber := rfl
set_option maxRecDepth 100000 in
theorem go116 : gOwn 116 = 8 := rfl
set_option maxRecDepth 100000 in
theorem ga116 : gArg 116 = 1 := rfl
set_option maxRecDepth 100000 in
theorem gs116 : gSta 116 = true := rfl
set_option maxRecDepth 100000 in
theorem gm116 : gMax 116 = 1 := rfl
set_option maxRecDepth 100000 in
theorem gr116 : gRet 116 = (some .int) := rfl
set_option maxRecDepth 100000 in
theorem gc117 : gCode 117 = cX8_at := rfl
set_option maxRecDepth 100000 in
theorem go117 : gOwn 117 = 8 := rfl
set_option maxRecDepth 100000 in
theorem ga117 : gArg 117 = 2 := rfl
set_option maxRecDepth 100000 in
theorem gs117 : gSta 117 = true := rfl
set_option maxRecDepth 100000 in
theorem gm117 : gMax 117 = 2 := rfl
set_option maxRecDepth 100000 in
theorem gr117 : gRet 117 = (some .int) := rfl
set_option maxRecDepth 100000 in
theorem gc118 : gCode 118 = cX8_setAt := rfl
set_option maxRecDepth 100000 in
theorem go118 : gOwn 118 = 8 := rfl
set_option maxRecDepth 100000 in
theorem ga118 : gArg 118 = 3 := rfl
set_option maxRecDepth 100000 in
theorem gs118 : gSta 118 = true := rfl
set_option maxRecDepth 100000 in
theorem gm118 : gMax 118 = 3 := rfl
set_option maxRecDepth 100000 in
theorem gr118 : gRet 118 = none := rfl
set_option maxRecDepth 100000 in
theorem gc119 : gCode 119 = cX9_init := rfl
set_option maxRecDepth 100000 in
theorem go119 : gOwn 119 = 9 := rfl
set_option maxRecDepth 100000 in
theorem ga119 : gArg 119 = 0 := rfl
set_option maxRecDepth 100000 in
theorem gs119 : gSta 119 = false := rfl
set_option maxRecDepth 100000 in
theorem gm119 : gMax 119 = 2 := rfl
set_option maxRecDepth 100000 in
theorem gr119 : gRet 119 = none := rfl
set_option maxRecDepth 100000 in
theorem gc120 : gCode 120 = cX9_gapTold := rfl
set_option maxRecDepth 100000 in
theorem go120 : gOwn 120 = 9 := rfl
set_option maxRecDepth 100000 in
theorem ga120 : gArg 120 = 5 := rfl
set_option maxRecDepth 100000 in
theorem gs120 : gSta 120 = false := rfl
set_option maxRecDepth 100000 in
theorem gm120 : gMax 120 = 7 := rfl
set_option maxRecDepth 100000 in
theorem gr120 : gRet 120 = none := rfl
set_option maxRecDepth 100000 in
theorem gc121 : gCode 121 = cX9_stitcherTold := rfl
set_option maxRecDepth 100000 in
theorem go121 : gOwn 121 = 9 := rfl
set_option maxRecDepth 100000 in
theorem ga121 : gArg 121 = 3 := rfl
set_option maxRecDepth 100000 in
theorem gs121 : gSta 121 = false := rfl
set_option maxRecDepth 100000 in
theorem gm121 : gMax 121 = 4 := rfl
set_option maxRecDepth 100000 in
theorem gr121 : gRet 121 = none := rfl
set_option maxRecDepth 100000 in
theorem gc122 : gCode 122 = cX9_in := rfl
set_option maxRecDepth 100000 in
theorem go122 : gOwn 122 = 9 := rfl
set_option maxRecDepth 100000 in
theorem ga122 : gArg 122 = 3 := rfl
set_option maxRecDepth 100000 in
theorem gs122 : gSta 122 = true := rfl
set_option maxRecDepth 100000 in
theorem gm122 : gMax 122 = 3 := rfl
set_option maxRecDepth 100000 in
theorem gr122 : gRet 122 = (some .boolean) := rfl
set_option maxRecDepth 100000 in
theorem gc123 : gCode 123 = cX9_has := rfl
set_option maxRecDepth 100000 in
theorem go123 : gOwn 123 = 9 := rfl
set_option maxRecDepth 100000 in
theorem ga123 : gArg 123 = 2 := rfl
set_option maxRecDepth 100000 in
theorem gs123 : gSta 123 = true := rfl
set_option maxRecDepth 100000 in
theorem gm123 : gMax 123 = 2 := rfl
set_option maxRecDepth 100000 in
theorem gr123 : gRet 123 = (some .boolean) := rfl
set_option maxRecDepth 100000 in
theorem gc124 : gCode 124 = cX9_bits := rfl
set_option maxRecDepth 100000 in
theorem go124 : gOwn 124 = 9 := rfl
set_option maxRecDepth 100000 in
theorem ga124 : gArg 124 = 1 := rfl
set_option maxRecDepth 100000 in
theorem gs124 : gSta 124 = true := rfl
set_option maxRecDepth 100000 in
theorem gm124 : gMax 124 = 3 := rfl
set_option maxRecDepth 100000 in
theorem gr124 : gRet 124 = (some .int) := rfl
set_option maxRecDepth 100000 in
theorem gc125 : gCode 125 = cX9_write := rfl
set_option maxRecDepth 100000 in
theorem go125 : gOwn 125 = 9 := rfl
set_option maxRecDepth 100000 in
theorem ga125 : gArg 125 = 1 := rfl
set_option maxRecDepth 100000 in
theorem gs125 : gSta 125 = false := rfl
set_option maxRecDepth 100000 in
theorem gm125 : gMax 125 = 2 := rfl
set_option maxRecDepth 100000 in
theorem gr125 : gRet 125 = (some .int) := rfl
set_option maxRecDepth 100000 in
theorem gc126 : gCode 126 = cX9_wipe := rfl
set_option maxRecDepth 100000 in
theorem go126 : gOwn 126 = 9 := rfl
set_option maxRecDepth 100000 in
theorem ga126 : gArg 126 = 0 := rfl
set_option maxRecDepth 100000 in
theorem gs126 : gSta 126 = false := rfl
set_option maxRecDepth 100000 in
theorem gm126 : gMax 126 = 2 := rfl
set_option maxRecDepth 100000 in
theorem gr126 : gRet 126 = (some .int) := rfl
set_option maxRecDepth 100000 in
theorem gc127 : gCode 127 = cX9_letterAt := rfl
set_option maxRecDepth 100000 in
theorem go127 : gOwn 127 = 9 := rfl
set_option maxRecDepth 100000 in
theorem ga127 : gArg 127 = 1 := rfl
set_option maxRecDepth 100000 in
theorem gs127 : gSta 127 = false := rfl
set_option maxRecDepth 100000 in
theorem gm127 : gMax 127 = 2 := rfl
set_option maxRecDepth 100000 in
theorem gr127 : gRet 127 = (some .int) := rfl
set_option maxRecDepth 100000 in
theorem gc128 : gCode 128 = cX9_isFigure := rfl
set_option maxRecDepth 100000 in
theorem go128 : gOwn 128 = 9 := rfl
set_option maxRecDepth 100000 in
theorem ga128 : gArg 128 = 1 := rfl
set_option maxRecDepth 100000 in
theorem gs128 : gSta 128 = true := rfl
set_option maxRecDepth 100000 in
theorem gm128 : gMax 128 = 1 := rfl
set_option maxRecDepth 100000 in
theorem gr128 : gRet 128 = (some .boolean) := rfl
set_option maxRecDepth 100000 in
theorem gc129 : gCode 129 = cX9_readsNumbers := rfl
set_option maxRecDepth 100000 in
theorem go129 : gOwn 129 = 9 := rfl
set_option maxRecDepth 100000 in
theorem ga129 : gArg 129 = 1 := rfl
set_option maxRecDepth 100000 in
theorem gs129 : gSta 129 = false := rfl
set_option maxRecDepth 100000 in
theorem gm129 : gMax 129 = 4 := rfl
set_option maxRecDepth 100000 in
theorem gr129 : gRet 129 = (some .boolean) := rfl
set_option maxRecDepth 100000 in
theorem gc130 : gCode 130 = cX9_readsPieces := rfl
set_option maxRecDepth 100000 in
theorem go130 : gOwn 130 = 9 := rfl
set_option maxRecDepth 100000 in
theorem ga130 : gArg 130 = 0 := rfl
set_option maxRecDepth 100000 in
theorem gs130 : gSta 130 = false := rfl
set_option maxRecDepth 100000 in
theorem gm130 : gMax 130 = 1 := rfl
set_option maxRecDepth 100000 in
theorem gr130 : gRet 130 = (some .boolean) := rfl
set_option maxRecDepth 100000 in
theorem gc131 : gCode 131 = cX9_readsGap := rfl
set_option maxRecDepth 100000 in
theorem go131 : gOwn 131 = 9 := rfl
set_option maxRecDepth 100000 in
theorem ga131 : gArg 131 = 0 := rfl
set_option maxRecDepth 100000 in
theorem gs131 : gSta 131 = false := rfl
set_option maxRecDepth 100000 in
theorem gm131 : gMax 131 = 4 := rfl
set_option maxRecDepth 100000 in
theorem gr131 : gRet 131 = (some .boolean) := rfl
set_option maxRecDepth 100000 in
theorem gc132 : gCode 132 = cX9_readsStitcher := rfl
set_option maxRecDepth 100000 in
theorem go132 : gOwn 132 = 9 := rfl
set_option maxRecDepth 100000 in
theorem ga132 : gArg 132 = 0 := rfl
set_option maxRecDepth 100000 in
theorem gs132 : gSta 132 = false := rfl
set_option maxRecDepth 100000 in
theorem gm132 : gMax 132 = 3 := rfl
set_option maxRecDepth 100000 in
theorem gr132 : gRet 132 = (some .boolean) := rfl
set_option maxRecDepth 100000 in
theorem gc133 : gCode 133 = cX9_readsLight := rfl
set_option maxRecDepth 100000 in
theorem go133 : gOwn 133 = 9 := rfl
set_option maxRecDepth 100000 in
theorem ga133 : gArg 133 = 0 := rfl
set_option maxRecDepth 100000 in
theorem gs133 : gSta 133 = false := rfl
set_option maxRecDepth 100000 in
theorem gm133 : gMax 133 = 1 := rfl
set_option maxRecDepth 100000 in
theorem gr133 : gRet 133 = (some .boolean) := rfl
set_option maxRecDepth 100000 in
theorem gc134 : gCode 134 = cX9_readsRain := rfl
set_option maxRecDepth 100000 in
theorem go134 : gOwn 134 = 9 := rfl
set_option maxRecDepth 100000 in
theorem ga134 : gArg 134 = 0 := rfl
set_option maxRecDepth 100000 in
theorem gs134 : gSta 134 = false := rfl
set_option maxRecDepth 100000 in
theorem gm134 : gMax 134 = 1 := rfl
set_option maxRecDepth 100000 in
theorem gr134 : gRet 134 = (some .boolean) := rfl
set_option maxRecDepth 100000 in
theorem gc135 : gCode 135 = cX9_readsItem := rfl
set_option maxRecDepth 100000 in
theorem go135 : gOwn 135 = 9 := rfl
set_option maxRecDepth 100000 in
theorem ga135 : gArg 135 = 0 := rfl
set_option maxRecDepth 100000 in
theorem gs135 : gSta 135 = false := rfl
set_option maxRecDepth 100000 in
theorem gm135 : gMax 135 = 2 := rfl
set_option maxRecDepth 100000 in
theorem gr135 : gRet 135 = (some .boolean) := rfl
set_option maxRecDepth 100000 in
theorem gc136 : gCode 136 = cX9_fault := rfl
set_option maxRecDepth 100000 in
theorem go136 : gOwn 136 = 9 := rfl
set_option maxRecDepth 100000 in
theorem ga136 : gArg 136 = 0 := rfl
set_option maxRecDepth 100000 in
theorem gs136 : gSta 136 = false := rfl
set_option maxRecDepth 100000 in
theorem gm136 : gMax 136 = 2 := rfl
set_option maxRecDepth 100000 in
theorem gr136 : gRet 136 = (some .int) := rfl
set_option maxRecDepth 100000 in
theorem gc137 : gCode 137 = cX9_lay := rfl
set_option maxRecDepth 100000 in
theorem go137 : gOwn 137 = 9 := rfl
set_option maxRecDepth 100000 in
theorem ga137 : gArg 137 = 0 := rfl
set_option maxRecDepth 100000 in
theorem gs137 : gSta 137 = false := rfl
set_option maxRecDepth 100000 in
theorem gm137 : gMax 137 = 2 := rfl
set_option maxRecDepth 100000 in
theorem gr137 : gRet 137 = (some .int) := rfl
set_option maxRecDepth 100000 in
theorem gc138 : gCode 138 = cX9_isGap := rfl
set_option maxRecDepth 100000 in
theorem go138 : gOwn 138 = 9 := rfl
set_option maxRecDepth 100000 in
theorem ga138 : gArg 138 = 1 := rfl
set_option maxRecDepth 100000 in
theorem gs138 : gSta 138 = false := rfl
set_option maxRecDepth 100000 in
theorem gm138 : gMax 138 = 2 := rfl
set_option maxRecDepth 100000 in
theorem gr138 : gRet 138 = (some .boolean) := rfl
set_option maxRecDepth 100000 in
theorem gc139 : gCode 139 = cX9_isStitcher := rfl
set_option maxRecDepth 100000 in
theorem go139 : gOwn 139 = 9 := rfl
set_option maxRecDepth 100000 in
theorem ga139 : gArg 139 = 1 := rfl
set_option maxRecDepth 100000 in
theorem gs139 : gSta 139 = false := rfl
set_option maxRecDepth 100000 in
theorem gm139 : gMax 139 = 2 := rfl
set_option maxRecDepth 100000 in
theorem gr139 : gRet 139 = (some .boolean) := rfl
set_option maxRecDepth 100000 in
theorem gc140 : gCode 140 = cX9_isPiece := rfl
set_option maxRecDepth 100000 in
theorem go140 : gOwn 140 = 9 := rfl
set_option maxRecDepth 100000 in
theorem ga140 : gArg 140 = 1 := rfl
set_option maxRecDepth 100000 in
theorem gs140 : gSta 140 = false := rfl
set_option maxRecDepth 100000 in
theorem gm140 : gMax 140 = 2 := rfl
set_option maxRecDepth 100000 in
theorem gr140 : gRet 140 = (some .boolean) := rfl
set_option maxRecDepth 100000 in
theorem gc141 : gCode 141 = cX9_of := rfl
set_option maxRecDepth 100000 in
theorem go141 : gOwn 141 = 9 := rfl
set_option maxRecDepth 100000 in
theorem ga141 : gArg 141 = 2 := rfl
set_option maxRecDepth 100000 in
theorem gs141 : gSta 141 = false := rfl
set_option maxRecDepth 100000 in
theorem gm141 : gMax 141 = 3 := rfl
set_option maxRecDepth 100000 in
theorem gr141 : gRet 141 = (some .int) := rfl
set_option maxRecDepth 100000 in
theorem gc142 : gCode 142 = cX9_isClosed := rfl
set_option maxRecDepth 100000 in
theorem go142 : gOwn 142 = 9 := rfl
set_option maxRecDepth 100000 in
theorem ga142 : gArg 142 = 2 := rfl
set_option maxRecDepth 100000 in
theorem gs142 : gSta 142 = false := rfl
set_option maxRecDepth 100000 in
theorem gm142 : gMax 142 = 3 := rfl
set_option maxRecDepth 100000 in
theorem gr142 : gRet 142 = (some .boolean) := rfl
set_option maxRecDepth 100000 in
theorem gc143 : gCode 143 = cX9_closed := rfl
set_option maxRecDepth 100000 in
theorem go143 : gOwn 143 = 9 := rfl
set_option maxRecDepth 100000 in
theorem ga143 : gArg 143 = 1 := rfl
set_option maxRecDepth 100000 in
theorem gs143 : gSta 143 = false := rfl
set_option maxRecDepth 100000 in
theorem gm143 : gMax 143 = 4 := rfl
set_option maxRecDepth 100000 in
theorem gr143 : gRet 143 = (some .int) := rfl
set_option maxRecDepth 100000 in
theorem gc144 : gCode 144 = cX9_isLight := rfl
set_option maxRecDepth 100000 in
theorem go144 : gOwn 144 = 9 := rfl
set_option maxRecDepth 100000 in
theorem ga144 : gArg 144 = 1 := rfl
set_option maxRecDepth 100000 in
theorem gs144 : gSta 144 = false := rfl
set_option maxRecDepth 100000 in
theorem gm144 : gMax 144 = 2 := rfl
set_option maxRecDepth 100000 in
theorem gr144 : gRet 144 = (some .boolean) := rfl
set_option maxRecDepth 100000 in
theorem gc145 : gCode 145 = cX9_rains := rfl
set_option maxRecDepth 100000 in
theorem go145 : gOwn 145 = 9 := rfl
set_option maxRecDepth 100000 in
theorem ga145 : gArg 145 = 1 := rfl
set_option maxRecDepth 100000 in
theorem gs145 : gSta 145 = false := rfl
set_option maxRecDepth 100000 in
theorem gm145 : gMax 145 = 2 := rfl
set_option maxRecDepth 100000 in
theorem gr145 : gRet 145 = (some .boolean) := rfl
set_option maxRecDepth 100000 in
theorem gc146 : gCode 146 = cX9_sews := rfl
set_option maxRecDepth 100000 in
theorem go146 : gOwn 146 = 9 := rfl
set_option maxRecDepth 100000 in
theorem ga146 : gArg 146 = 2 := rfl
set_option maxRecDepth 100000 in
theorem gs146 : gSta 146 = false := rfl
set_option maxRecDepth 100000 in
theorem gm146 : gMax 146 = 5 := rfl
set_option maxRecDepth 100000 in
theorem gr146 : gRet 146 = (some .int) := rfl
set_option maxRecDepth 100000 in
theorem gc147 : gCode 147 = cX9_flies := rfl
set_option maxRecDepth 100000 in
theorem go147 : gOwn 147 = 9 := rfl
set_option maxRecDepth 100000 in
theorem ga147 : gArg 147 = 2 := rfl
set_option maxRecDepth 100000 in
theorem gs147 : gSta 147 = false := rfl
set_option maxRecDepth 100000 in
theorem gm147 : gMax 147 = 9 := rfl
set_option maxRecDepth 100000 in
theorem gr147 : gRet 147 = none := rfl
set_option maxRecDepth 100000 in
theorem gc148 : gCode 148 = cX9_passes := rfl
set_option maxRecDepth 100000 in
theorem go148 : gOwn 148 = 9 := rfl
set_option maxRecDepth 100000 in
theorem ga148 : gArg 148 = 2 := rfl
set_option maxRecDepth 100000 in
theorem gs148 : gSta 148 = false := rfl
set_option maxRecDepth 100000 in
theorem gm148 : gMax 148 = 5 := rfl
set_option maxRecDepth 100000 in
theorem gr148 : gRet 148 = none := rfl
set_option maxRecDepth 100000 in
theorem gc149 : gCode 149 = cX9_goes := rfl
set_option maxRecDepth 100000 in
theorem go149 : gOwn 149 = 9 := rfl
set_option maxRecDepth 100000 in
theorem ga149 : gArg 149 = 1 := rfl
set_option maxRecDepth 100000 in
theorem gs149 : gSta 149 = false := rfl
set_option maxRecDepth 100000 in
theorem gm149 : gMax 149 = 2 := rfl
set_option maxRecDepth 100000 in
theorem gr149 : gRet 149 = none := rfl
set_option maxRecDepth 100000 in
theorem gc150 : gCode 150 = cX9_gap := rfl
set_option maxRecDepth 100000 in
theorem go150 : gOwn 150 = 9 := rfl
set_option maxRecDepth 100000 in
theorem ga150 : gArg 150 = 2 := rfl
set_option maxRecDepth 100000 in
theorem gs150 : gSta 150 = false := rfl
set_option maxRecDepth 100000 in
theorem gm150 : gMax 150 = 3 := rfl
set_option maxRecDepth 100000 in
theorem gr150 : gRet 150 = (some .int) := rfl
set_option maxRecDepth 100000 in
theorem gc151 : gCode 151 = cX9_stitcher := rfl
set_option maxRecDepth 100000 in
theorem go151 : gOwn 151 = 9 := rfl
set_option maxRecDepth 100000 in
theorem ga151 : gArg 151 = 2 := rfl
set_option maxRecDepth 100000 in
theorem gs151 : gSta 151 = false := rfl
set_option maxRecDepth 100000 in
theorem gm151 : gMax 151 = 3 := rfl
set_option maxRecDepth 100000 in
theorem gr151 : gRet 151 = (some .int) := rfl
set_option maxRecDepth 100000 in
theorem gc152 : gCode 152 = cX9_sky := rfl
set_option maxRecDepth 100000 in
theorem go152 : gOwn 152 = 9 := rfl
set_option maxRecDepth 100000 in
theorem ga152 : gArg 152 = 2 := rfl
set_option maxRecDepth 100000 in
theorem gs152 : gSta 152 = false := rfl
set_option maxRecDepth 100000 in
theorem gm152 : gMax 152 = 3 := rfl
set_option maxRecDepth 100000 in
theorem gr152 : gRet 152 = (some .int) := rfl
set_option maxRecDepth 100000 in
theorem gc153 : gCode 153 = cX9_onward := rfl
set_option maxRecDepth 100000 in
theorem go153 : gOwn 153 = 9 := rfl
set_option maxRecDepth 100000 in
theorem ga153 : gArg 153 = 2 := rfl
set_option maxRecDepth 100000 in
theorem gs153 : gSta 153 = false := rfl
set_option maxRecDepth 100000 in
theorem gm153 : gMax 153 = 6 := rfl
set_option maxRecDepth 100000 in
theorem gr153 : gRet 153 = (some .int) := rfl
set_option maxRecDepth 100000 in
theorem gc154 : gCode 154 = cX9_reached := rfl
set_option maxRecDepth 100000 in
theorem go154 : gOwn 154 = 9 := rfl
set_option maxRecDepth 100000 in
theorem ga154 : gArg 154 = 2 := rfl
set_option maxRecDepth 100000 in
theorem gs154 : gSta 154 = false := rfl
set_option maxRecDepth 100000 in
theorem gm154 : gMax 154 = 5 := rfl
set_option maxRecDepth 100000 in
theorem gr154 : gRet 154 = (some .int) := rfl
set_option maxRecDepth 100000 in
theorem gc155 : gCode 155 = cX9_pairs := rfl
set_option maxRecDepth 100000 in
theorem go155 : gOwn 155 = 9 := rfl
set_option maxRecDepth 100000 in
theorem ga155 : gArg 155 = 1 := rfl
set_option maxRecDepth 100000 in
theorem gs155 : gSta 155 = false := rfl
set_option maxRecDepth 100000 in
theorem gm155 : gMax 155 = 4 := rfl
set_option maxRecDepth 100000 in
theorem gr155 : gRet 155 = (some .int) := rfl
set_option maxRecDepth 100000 in
theorem gc156 : gCode 156 = cX9_heaps := rfl
set_option maxRecDepth 100000 in
theorem go156 : gOwn 156 = 9 := rfl
set_option maxRecDepth 100000 in
theorem ga156 : gArg 156 = 1 := rfl
set_option maxRecDepth 100000 in
theorem gs156 : gSta 156 = false := rfl
set_option maxRecDepth 100000 in
theorem gm156 : gMax 156 = 5 := rfl
set_option maxRecDepth 100000 in
theorem gr156 : gRet 156 = (some .int) := rfl
set_option maxRecDepth 100000 in
theorem gc157 : gCode 157 = cX9_together := rfl
set_option maxRecDepth 100000 in
theorem go157 : gOwn 157 = 9 := rfl
set_option maxRecDepth 100000 in
theorem ga157 : gArg 157 = 2 := rfl
set_option maxRecDepth 100000 in
theorem gs157 : gSta 157 = false := rfl
set_option maxRecDepth 100000 in
theorem gm157 : gMax 157 = 3 := rfl
set_option maxRecDepth 100000 in
theorem gr157 : gRet 157 = (some .int) := rfl
set_option maxRecDepth 100000 in
theorem gc158 : gCode 158 = cX9_remember := rfl
set_option maxRecDepth 100000 in
theorem go158 : gOwn 158 = 9 := rfl
set_option maxRecDepth 100000 in
theorem ga158 : gArg 158 = 0 := rfl
set_option maxRecDepth 100000 in
theorem gs158 : gSta 158 = false := rfl
set_option maxRecDepth 100000 in
theorem gm158 : gMax 158 = 2 := rfl
set_option maxRecDepth 100000 in
theorem gr158 : gRet 158 = none := rfl
set_option maxRecDepth 100000 in
theorem gc159 : gCode 159 = cX9_isSendable := rfl
set_option maxRecDepth 100000 in
theorem go159 : gOwn 159 = 9 := rfl
set_option maxRecDepth 100000 in
theorem ga159 : gArg 159 = 3 := rfl
set_option maxRecDepth 100000 in
theorem gs159 : gSta 159 = false := rfl
set_option maxRecDepth 100000 in
theorem gm159 : gMax 159 = 4 := rfl
set_option maxRecDepth 100000 in
theorem gr159 : gRet 159 = (some .boolean) := rfl
set_option maxRecDepth 100000 in
theorem gc160 : gCode 160 = cX9_send := rfl
set_option maxRecDepth 100000 in
theorem go160 : gOwn 160 = 9 := rfl
set_option maxRecDepth 100000 in
theorem ga160 : gArg 160 = 2 := rfl
set_option maxRecDepth 100000 in
theorem gs160 : gSta 160 = false := rfl
set_option maxRecDepth 100000 in
theorem gm160 : gMax 160 = 4 := rfl
set_option maxRecDepth 100000 in
theorem gr160 : gRet 160 = (some .int) := rfl
set_option maxRecDepth 100000 in
theorem gc161 : gCode 161 = cX9_pass := rfl
set_option maxRecDepth 100000 in
theorem go161 : gOwn 161 = 9 := rfl
set_option maxRecDepth 100000 in
theorem ga161 : gArg 161 = 1 := rfl
set_option maxRecDepth 100000 in
theorem gs161 : gSta 161 = false := rfl
set_option maxRecDepth 100000 in
theorem gm161 : gMax 161 = 3 := rfl
set_option maxRecDepth 100000 in
theorem gr161 : gRet 161 = (some .int) := rfl
set_option maxRecDepth 100000 in
theorem gc162 : gCode 162 = cX9_frog := rfl
set_option maxRecDepth 100000 in
theorem go162 : gOwn 162 = 9 := rfl
set_option maxRecDepth 100000 in
theorem ga162 : gArg 162 = 1 := rfl
set_option maxRecDepth 100000 in
theorem gs162 : gSta 162 = false := rfl
set_option maxRecDepth 100000 in
theorem gm162 : gMax 162 = 2 := rfl
set_option maxRecDepth 100000 in
theorem gr162 : gRet 162 = (some .int) := rfl
set_option maxRecDepth 100000 in
theorem gc163 : gCode 163 = cX9_undo := rfl
set_option maxRecDepth 100000 in
theorem go163 : gOwn 163 = 9 := rfl
set_option maxRecDepth 100000 in
theorem ga163 : gArg 163 = 0 := rfl
set_option maxRecDepth 100000 in
theorem gs163 : gSta 163 = false := rfl
set_option maxRecDepth 100000 in
theorem gm163 : gMax 163 = 2 := rfl
set_option maxRecDepth 100000 in
theorem gr163 : gRet 163 = (some .int) := rfl
set_option maxRecDepth 100000 in
theorem gc164 : gCode 164 = cX9_copyNow := rfl
set_option maxRecDepth 100000 in
theorem go164 : gOwn 164 = 9 := rfl
set_option maxRecDepth 100000 in
theorem ga164 : gArg 164 = 0 := rfl
set_option maxRecDepth 100000 in
theorem gs164 : gSta 164 = false := rfl
set_option maxRecDepth 100000 in
theorem gm164 : gMax 164 = 2 := rfl
set_option maxRecDepth 100000 in
theorem gr164 : gRet 164 = none := rfl
set_option maxRecDepth 100000 in
theorem gc165 : gCode 165 = cX9_closes := rfl
set_option maxRecDepth 100000 in
theorem go165 : gOwn 165 = 9 := rfl
set_option maxRecDepth 100000 in
theorem ga165 : gArg 165 = 1 := rfl
set_option maxRecDepth 100000 in
theorem gs165 : gSta 165 = false := rfl
set_option maxRecDepth 100000 in
theorem gm165 : gMax 165 = 3 := rfl
set_option maxRecDepth 100000 in
theorem gr165 : gRet 165 = (some .int) := rfl
set_option maxRecDepth 100000 in
theorem gc166 : gCode 166 = cX9_dusk := rfl
set_option maxRecDepth 100000 in
theorem go166 : gOwn 166 = 9 := rfl
set_option maxRecDepth 100000 in
theorem ga166 : gArg 166 = 0 := rfl
set_option maxRecDepth 100000 in
theorem gs166 : gSta 166 = false := rfl
set_option maxRecDepth 100000 in
theorem gm166 : gMax 166 = 2 := rfl
set_option maxRecDepth 100000 in
theorem gr166 : gRet 166 = (some .int) := rfl
set_option maxRecDepth 100000 in
theorem gc167 : gCode 167 = cX9_inRow := rfl
set_option maxRecDepth 100000 in
theorem go167 : gOwn 167 = 9 := rfl
set_option maxRecDepth 100000 in
theorem ga167 : gArg 167 = 2 := rfl
set_option maxRecDepth 100000 in
theorem gs167 : gSta 167 = false := rfl
set_option maxRecDepth 100000 in
theorem gm167 : gMax 167 = 5 := rfl
set_option maxRecDepth 100000 in
theorem gr167 : gRet 167 = (some .int) := rfl
set_option maxRecDepth 100000 in
theorem gc168 : gCode 168 = cX9_rowHours := rfl
set_option maxRecDepth 100000 in
theorem go168 : gOwn 168 = 9 := rfl
set_option maxRecDepth 100000 in
theorem ga168 : gArg 168 = 3 := rfl
set_option maxRecDepth 100000 in
theorem gs168 : gSta 168 = false := rfl
set_option maxRecDepth 100000 in
theorem gm168 : gMax 168 = 10 := rfl
set_option maxRecDepth 100000 in
theorem gr168 : gRet 168 = (some .int) := rfl
set_option maxRecDepth 100000 in
theorem gc169 : gCode 169 = cX9_rowMany := rfl
set_option maxRecDepth 100000 in
theorem go169 : gOwn 169 = 9 := rfl
set_option maxRecDepth 100000 in
theorem ga169 : gArg 169 = 1 := rfl
set_option maxRecDepth 100000 in
theorem gs169 : gSta 169 = false := rfl
set_option maxRecDepth 100000 in
theorem gm169 : gMax 169 = 4 := rfl
set_option maxRecDepth 100000 in
theorem gr169 : gRet 169 = (some .int) := rfl
set_option maxRecDepth 100000 in
theorem gc170 : gCode 170 = cX9_order := rfl
set_option maxRecDepth 100000 in
theorem go170 : gOwn 170 = 9 := rfl
set_option maxRecDepth 100000 in
theorem ga170 : gArg 170 = 3 := rfl
set_option maxRecDepth 100000 in
theorem gs170 : gSta 170 = false := rfl
set_option maxRecDepth 100000 in
theorem gm170 : gMax 170 = 10 := rfl
set_option maxRecDepth 100000 in
theorem gr170 : gRet 170 = (some .int) := rfl
set_option maxRecDepth 100000 in
theorem gc171 : gCode 171 = cX9_dealt := rfl
set_option maxRecDepth 100000 in
theorem go171 : gOwn 171 = 9 := rfl
set_option maxRecDepth 100000 in
theorem ga171 : gArg 171 = 2 := rfl
set_option maxRecDepth 100000 in
theorem gs171 : gSta 171 = false := rfl
set_option maxRecDepth 100000 in
theorem gm171 : gMax 171 = 5 := rfl
set_option maxRecDepth 100000 in
theorem gr171 : gRet 171 = (some .int) := rfl
set_option maxRecDepth 100000 in
theorem gc172 : gCode 172 = cX9_closedBy := rfl
set_option maxRecDepth 100000 in
theorem go172 : gOwn 172 = 9 := rfl
set_option maxRecDepth 100000 in
theorem ga172 : gArg 172 = 2 := rfl
set_option maxRecDepth 100000 in
theorem gs172 : gSta 172 = false := rfl
set_option maxRecDepth 100000 in
theorem gm172 : gMax 172 = 5 := rfl
set_option maxRecDepth 100000 in
theorem gr172 : gRet 172 = (some .int) := rfl
set_option maxRecDepth 100000 in
theorem gc173 : gCode 173 = cX9_deal := rfl
set_option maxRecDepth 100000 in
theorem go173 : gOwn 173 = 9 := rfl
set_option maxRecDepth 100000 in
theorem ga173 : gArg 173 = 2 := rfl
set_option maxRecDepth 100000 in
theorem gs173 : gSta 173 = false := rfl
set_option maxRecDepth 100000 in
theorem gm173 : gMax 173 = 8 := rfl
set_option maxRecDepth 100000 in
theorem gr173 : gRet 173 = (some .int) := rfl
set_option maxRecDepth 100000 in
theorem gc174 : gCode 174 = cX9_cut := rfl
set_option maxRecDepth 100000 in
theorem go174 : gOwn 174 = 9 := rfl
set_option maxRecDepth 100000 in
theorem ga174 : gArg 174 = 2 := rfl
set_option maxRecDepth 100000 in
theorem gs174 : gSta 174 = false := rfl
set_option maxRecDepth 100000 in
theorem gm174 : gMax 174 = 7 := rfl
set_option maxRecDepth 100000 in
theorem gr174 : gRet 174 = (some .int) := rfl
set_option maxRecDepth 100000 in
theorem gc175 : gCode 175 = cX9_between := rfl
set_option maxRecDepth 100000 in
theorem go175 : gOwn 175 = 9 := rfl
set_option maxRecDepth 100000 in
theorem ga175 : gArg 175 = 2 := rfl
set_option maxRecDepth 100000 in
theorem gs175 : gSta 175 = false := rfl
set_option maxRecDepth 100000 in
theorem gm175 : gMax 175 = 5 := rfl
set_option maxRecDepth 100000 in
theorem gr175 : gRet 175 = (some .int) := rfl
set_option maxRecDepth 100000 in
theorem gc176 : gCode 176 = cX9_joins := rfl
set_option maxRecDepth 100000 in
theorem go176 : gOwn 176 = 9 := rfl
set_option maxRecDepth 100000 in
theorem ga176 : gArg 176 = 1 := rfl
set_option maxRecDepth 100000 in
theorem gs176 : gSta 176 = false := rfl
set_option maxRecDepth 100000 in
theorem gm176 : gMax 176 = 7 := rfl
set_option maxRecDepth 100000 in
theorem gr176 : gRet 176 = (some .int) := rfl
set_option maxRecDepth 100000 in
theorem gc177 : gCode 177 = cX9_see := rfl
set_option maxRecDepth 100000 in
theorem go177 : gOwn 177 = 9 := rfl
set_option maxRecDepth 100000 in
theorem ga177 : gArg 177 = 3 := rfl
set_option maxRecDepth 100000 in
theorem gs177 : gSta 177 = false := rfl
set_option maxRecDepth 100000 in
theorem gm177 : gMax 177 = 4 := rfl
set_option maxRecDepth 100000 in
theorem gr177 : gRet 177 = (some .int) := rfl
set_option maxRecDepth 100000 in
theorem gc178 : gCode 178 = cX9_forget := rfl
set_option maxRecDepth 100000 in
theorem go178 : gOwn 178 = 9 := rfl
set_option maxRecDepth 100000 in
theorem ga178 : gArg 178 = 0 := rfl
set_option maxRecDepth 100000 in
theorem gs178 : gSta 178 = false := rfl
set_option maxRecDepth 100000 in
theorem gm178 : gMax 178 = 2 := rfl
set_option maxRecDepth 100000 in
theorem gr178 : gRet 178 = (some .int) := rfl
set_option maxRecDepth 100000 in
theorem gc179 : gCode 179 = cX9_isSo := rfl
set_option maxRecDepth 100000 in
theorem go179 : gOwn 179 = 9 := rfl
set_option maxRecDepth 100000 in
theorem ga179 : gArg 179 = 1 := rfl
set_option maxRecDepth 100000 in
theorem gs179 : gSta 179 = false := rfl
set_option maxRecDepth 100000 in
theorem gm179 : gMax 179 = 4 := rfl
set_option maxRecDepth 100000 in
theorem gr179 : gRet 179 = (some .boolean) := rfl
set_option maxRecDepth 100000 in
theorem gc180 : gCode 180 = cX9_seamed := rfl
set_option maxRecDepth 100000 in
theorem go180 : gOwn 180 = 9 := rfl
set_option maxRecDepth 100000 in
theorem ga180 : gArg 180 = 1 := rfl
set_option maxRecDepth 100000 in
theorem gs180 : gSta 180 = false := rfl
set_option maxRecDepth 100000 in
theorem gm180 : gMax 180 = 6 := rfl
set_option maxRecDepth 100000 in
theorem gr180 : gRet 180 = (some .int) := rfl
set_option maxRecDepth 100000 in
theorem gc181 : gCode 181 = cX9_isSeen := rfl
set_option maxRecDepth 100000 in
theorem go181 : gOwn 181 = 9 := rfl
set_option maxRecDepth 100000 in
theorem ga181 : gArg 181 = 2 := rfl
set_option maxRecDepth 100000 in
theorem gs181 : gSta 181 = false := rfl
set_option maxRecDepth 100000 in
theorem gm181 : gMax 181 = 5 := rfl
set_option maxRecDepth 100000 in
theorem gr181 : gRet 181 = (some .boolean) := rfl
set_option maxRecDepth 100000 in
theorem gc182 : gCode 182 = cX9_tells := rfl
set_option maxRecDepth 100000 in
theorem go182 : gOwn 182 = 9 := rfl
set_option maxRecDepth 100000 in
theorem ga182 : gArg 182 = 1 := rfl
set_option maxRecDepth 100000 in
theorem gs182 : gSta 182 = false := rfl
set_option maxRecDepth 100000 in
theorem gm182 : gMax 182 = 9 := rfl
set_option maxRecDepth 100000 in
theorem gr182 : gRet 182 = (some .int) := rfl
set_option maxRecDepth 100000 in
theorem gc183 : gCode 183 = cX9_common := rfl
set_option maxRecDepth 100000 in
theorem go183 : gOwn 183 = 9 := rfl
set_option maxRecDepth 100000 in
theorem ga183 : gArg 183 = 2 := rfl
set_option maxRecDepth 100000 in
theorem gs183 : gSta 183 = true := rfl
set_option maxRecDepth 100000 in
theorem gm183 : gMax 183 = 5 := rfl
set_option maxRecDepth 100000 in
theorem gr183 : gRet 183 = (some .int) := rfl
set_option maxRecDepth 100000 in
theorem gc184 : gCode 184 = cX9_showers := rfl
set_option maxRecDepth 100000 in
theorem go184 : gOwn 184 = 9 := rfl
set_option maxRecDepth 100000 in
theorem ga184 : gArg 184 = 4 := rfl
set_option maxRecDepth 100000 in
theorem gs184 : gSta 184 = false := rfl
set_option maxRecDepth 100000 in
theorem gm184 : gMax 184 = 10 := rfl
set_option maxRecDepth 100000 in
theorem gr184 : gRet 184 = (some .int) := rfl
set_option maxRecDepth 100000 in
theorem gc185 : gCode 185 = cX9_stitches := rfl
set_option maxRecDepth 100000 in
theorem go185 : gOwn 185 = 9 := rfl
set_option maxRecDepth 100000 in
theorem ga185 : gArg 185 = 1 := rfl
set_option maxRecDepth 100000 in
theorem gs185 : gSta 185 = false := rfl
set_option maxRecDepth 100000 in
theorem gm185 : gMax 185 = 4 := rfl
set_option maxRecDepth 100000 in
theorem gr185 : gRet 185 = (some .int) := rfl
set_option maxRecDepth 100000 in
theorem gc186 : gCode 186 = cX9_draws := rfl
set_option maxRecDepth 100000 in
theorem go186 : gOwn 186 = 9 := rfl
set_option maxRecDepth 100000 in
theorem ga186 : gArg 186 = 2 := rfl
set_option maxRecDepth 100000 in
theorem gs186 : gSta 186 = false := rfl
set_option maxRecDepth 100000 in
theorem gm186 : gMax 186 = 5 := rfl
set_option maxRecDepth 100000 in
theorem gr186 : gRet 186 = none := rfl
set_option maxRecDepth 100000 in
theorem gc187 : gCode 187 = cX9_summer := rfl
set_option maxRecDepth 100000 in
theorem go187 : gOwn 187 = 9 := rfl
set_option maxRecDepth 100000 in
theorem ga187 : gArg 187 = 3 := rfl
set_option maxRecDepth 100000 in
theorem gs187 : gSta 187 = false := rfl
set_option maxRecDepth 100000 in
theorem gm187 : gMax 187 = 7 := rfl
set_option maxRecDepth 100000 in
theorem gr187 : gRet 187 = (some .int) := rfl
set_option maxRecDepth 100000 in
theorem gc188 : gCode 188 = cX9_keep := rfl
set_option maxRecDepth 100000 in
theorem go188 : gOwn 188 = 9 := rfl
set_option maxRecDepth 100000 in
theorem ga188 : gArg 188 = 0 := rfl
set_option maxRecDepth 100000 in
theorem gs188 : gSta 188 = false := rfl
set_option maxRecDepth 100000 in
theorem gm188 : gMax 188 = 2 := rfl
set_option maxRecDepth 100000 in
theorem gr188 : gRet 188 = (some .int) := rfl
set_option maxRecDepth 100000 in
theorem gc189 : gCode 189 = cX9_back := rfl
set_option maxRecDepth 100000 in
theorem go189 : gOwn 189 = 9 := rfl
set_option maxRecDepth 100000 in
theorem ga189 : gArg 189 = 0 := rfl
set_option maxRecDepth 100000 in
theorem gs189 : gSta 189 = false := rfl
set_option maxRecDepth 100000 in
theorem gm189 : gMax 189 = 2 := rfl
set_option maxRecDepth 100000 in
theorem gr189 : gRet 189 = (some .int) := rfl
set_option maxRecDepth 100000 in
theorem gc190 : gCode 190 = cX9_sent := rfl
set_option maxRecDepth 100000 in
theorem go190 : gOwn 190 = 9 := rfl
set_option maxRecDepth 100000 in
theorem ga190 : gArg 190 = 0 := rfl
set_option maxRecDepth 100000 in
theorem gs190 : gSta 190 = false := rfl
set_option maxRecDepth 100000 in
theorem gm190 : gMax 190 = 3 := rfl
set_option maxRecDepth 100000 in
theorem gr190 : gRet 190 = (some .int) := rfl
set_option maxRecDepth 100000 in
theorem gc191 : gCode 191 = cX9_count := rfl
set_option maxRecDepth 100000 in
theorem go191 : gOwn 191 = 9 := rfl
set_option maxRecDepth 100000 in
theorem ga191 : gArg 191 = 1 := rfl
set_option maxRecDepth 100000 in
theorem gs191 : gSta 191 = false := rfl
set_option maxRecDepth 100000 in
theorem gm191 : gMax 191 = 2 := rfl
set_option maxRecDepth 100000 in
theorem gr191 : gRet 191 = (some .int) := rfl
set_option maxRecDepth 100000 in
theorem gc192 : gCode 192 = cJ6_bitCount_0f7a4 := rfl
set_option maxRecDepth 100000 in
theorem go192 : gOwn 192 = 10 := rfl
set_option maxRecDepth 100000 in
theorem ga192 : gArg 192 = 1 := rfl
set_option maxRecDepth 100000 in
theorem gs192 : gSta 192 = true := rfl
set_option maxRecDepth 100000 in
theorem gm192 : gMax 192 = 1 := rfl
set_option maxRecDepth 100000 in
theorem gr192 : gRet 192 = (some .int) := rfl
set_option maxRecDepth 100000 in
theorem gc193 : gCode 193 = cL_law := rfl
set_option maxRecDepth 100000 in
theorem go193 : gOwn 193 = 11 := rfl
set_option maxRecDepth 100000 in
theorem ga193 : gArg 193 = 1 := rfl
set_option maxRecDepth 100000 in
theorem gs193 : gSta 193 = true := rfl
set_option maxRecDepth 100000 in
theorem gm193 : gMax 193 = 4 := rfl
set_option maxRecDepth 100000 in
theorem gr193 : gRet 193 = (some .boolean) := rfl
set_option maxRecDepth 100000 in
theorem gcs0_3 : gFind (gCS 0) 3 = some (6, 0) := by decide +kernel
set_option maxRecDepth 100000 in
theorem lti_0 : Int32.ofInt (0) = J (0) := by decide +kernel
set_option maxRecDepth 100000 in
theorem gf0_9 : gFind (gFS 0) 9 = some (0, 0) := by decide +kernel
set_option maxRecDepth 100000 in
theorem lti_4 : Int32.ofInt (4) = J (4) := by decide +kernel
set_option maxRecDepth 100000 in
theorem gf0_15 : gFind (gFS 0) 15 = some (0, 1) := by decide +kernel
set_option maxRecDepth 100000 in
theorem gf0_19 : gFind (gFS 0) 19 = some (0, 2) := by decide +kernel
set_option maxRecDepth 100000 in
theorem ltb_8 : (Int8.ofInt (8)).toInt32 = J (8) := by decide +kernel
set_option maxRecDepth 100000 in
theorem gf0_22 : gFind (gFS 0) 22 = some (0, 3) := by decide +kernel
set_option maxRecDepth 100000 in
theorem gf0_25 : gFind (gFS 0) 25 = some (0, 4) := by decide +kernel
set_option maxRecDepth 100000 in
theorem lti_m1 : Int32.ofInt (-1) = J (-1) := by decide +kernel
set_option maxRecDepth 100000 in
theorem gf0_28 : gFind (gFS 0) 28 = some (2, 1) := by decide +kernel
set_option maxRecDepth 100000 in
theorem lti_1 : Int32.ofInt (1) = J (1) := by decide +kernel
set_option maxRecDepth 100000 in
theorem gf0_33 : gFind (gFS 0) 33 = some (2, 2) := by decide +kernel
set_option maxRecDepth 100000 in
theorem gcs0_36 : gFind (gCS 0) 36 = some (0, 58) := by decide +kernel
set_option maxRecDepth 100000 in
theorem gcs0_42 : gFind (gCS 0) 42 = some (1, 2) := by decide +kernel
set_option maxRecDepth 100000 in
theorem gcs0_46 : gFind (gCS 0) 46 = some (0, 70) := by decide +kernel
set_option maxRecDepth 100000 in
theorem ltb_m4 : (Int8.ofInt (-4)).toInt32 = J (-4) := by decide +kernel
set_option maxRecDepth 100000 in
theorem gcs0_50 : gFind (gCS 0) 50 = some (2, 118) := by decide +kernel
set_option maxRecDepth 100000 in
theorem gcs0_54 : gFind (gCS 0) 54 = some (0, 63) := by decide +kernel
set_option maxRecDepth 100000 in
theorem gcs0_58 : gFind (gCS 0) 58 = some (1, 192) := by decide +kernel
set_option maxRecDepth 100000 in
theorem gcs0_64 : gFind (gCS 0) 64 = some (0, 3) := by decide +kernel
set_option maxRecDepth 100000 in
theorem gcs0_68 : gFind (gCS 0) 68 = some (2, 114) := by decide +kernel
set_option maxRecDepth 100000 in
theorem gcs0_72 : gFind (gCS 0) 72 = some (0, 66) := by decide +kernel
set_option maxRecDepth 100000 in
theorem gcs0_76 : gFind (gCS 0) 76 = some (0, 5) := by decide +kernel
set_option maxRecDepth 100000 in
theorem gcs0_80 : gFind (gCS 0) 80 = some (0, 4) := by decide +kernel
set_option maxRecDepth 100000 in
theorem gcs0_84 : gFind (gCS 0) 84 = some (2, 117) := by decide +kernel
set_option maxRecDepth 100000 in
theorem gcs0_88 : gFind (gCS 0) 88 = some (2, 115) := by decide +kernel
set_option maxRecDepth 100000 in
theorem gcs1_3 : gFind (gCS 1) 3 = some (6, 0) := by decide +kernel
set_option maxRecDepth 100000 in
theorem gf1_9 : gFind (gFS 1) 9 = some (1, 0) := by decide +kernel
set_option maxRecDepth 100000 in
theorem gcs1_15 : gFind (gCS 1) 15 = some (2, 118) := by decide +kernel
set_option maxRecDepth 100000 in
theorem gf1_19 : gFind (gFS 1) 19 = some (2, 1) := by decide +kernel
set_option maxRecDepth 100000 in
theorem gcs1_25 : gFind (gCS 1) 25 = some (2, 114) := by decide +kernel
set_option maxRecDepth 100000 in
theorem gcs1_29 : gFind (gCS 1) 29 = some (0, 18) := by decide +kernel
set_option maxRecDepth 100000 in
theorem gcs1_33 : gFind (gCS 1) 33 = some (2, 117) := by decide +kernel
set_option maxRecDepth 100000 in
theorem lti_2 : Int32.ofInt (2) = J (2) := by decide +kernel
set_option maxRecDepth 100000 in
theorem gcs1_37 : gFind (gCS 1) 37 = some (0, 8) := by decide +kernel
set_option maxRecDepth 100000 in
theorem gcs1_41 : gFind (gCS 1) 41 = some (0, 9) := by decide +kernel
set_option maxRecDepth 100000 in
theorem gcs1_44 : gFind (gCS 1) 44 = some (0, 11) := by decide +kernel
set_option maxRecDepth 100000 in
theorem gcs1_48 : gFind (gCS 1) 48 = some (2, 116) := by decide +kernel
set_option maxRecDepth 100000 in
theorem gf1_52 : gFind (gFS 1) 52 = some (2, 0) := by decide +kernel
set_option maxRecDepth 100000 in
theorem gcs2_3 : gFind (gCS 2) 3 = some (6, 0) := by decide +kernel
set_option maxRecDepth 100000 in
theorem ltb_40 : (Int8.ofInt (40)).toInt32 = J (40) := by decide +kernel
set_option maxRecDepth 100000 in
theorem gf2_9 : gFind (gFS 2) 9 = some (2, 5) := by decide +kernel
set_option maxRecDepth 100000 in
theorem ltb_12 : (Int8.ofInt (12)).toInt32 = J (12) := by decide +kernel
set_option maxRecDepth 100000 in
theorem gf2_15 : gFind (gFS 2) 15 = some (2, 6) := by decide +kernel
set_option maxRecDepth 100000 in
theorem gf2_18 : gFind (gFS 2) 18 = some (2, 7) := by decide +kernel
set_option maxRecDepth 100000 in
theorem gf2_21 : gFind (gFS 2) 21 = some (2, 0) := by decide +kernel
set_option maxRecDepth 100000 in
theorem gf2_25 : gFind (gFS 2) 25 = some (2, 1) := by decide +kernel
set_option maxRecDepth 100000 in
theorem gf2_28 : gFind (gFS 2) 28 = some (2, 2) := by decide +kernel
set_option maxRecDepth 100000 in
theorem gf2_31 : gFind (gFS 2) 31 = some (2, 3) := by decide +kernel
set_option maxRecDepth 100000 in
theorem gf2_34 : gFind (gFS 2) 34 = some (2, 4) := by decide +kernel
set_option maxRecDepth 100000 in
theorem lti_5 : Int32.ofInt (5) = J (5) := by decide +kernel
set_option maxRecDepth 100000 in
theorem gcs2_37 : gFind (gCS 2) 37 = some (2, 117) := by decide +kernel
set_option maxRecDepth 100000 in
theorem gcs2_41 : gFind (gCS 2) 41 = some (2, 118) := by decide +kernel
set_option maxRecDepth 100000 in
theorem lti_3 : Int32.ofInt (3) = J (3) := by decide +kernel
set_option maxRecDepth 100000 in
theorem ltb_24 : (Int8.ofInt (24)).toInt32 = J (24) := by decide +kernel
set_option maxRecDepth 100000 in
theorem gcs2_45 : gFind (gCS 2) 45 = some (9, 0) := by decide +kernel
set_option maxRecDepth 100000 in
theorem gcs2_51 : gFind (gCS 2) 51 = some (0, 19) := by decide +kernel
set_option maxRecDepth 100000 in
theorem gcs2_54 : gFind (gCS 2) 54 = some (0, 18) := by decide +kernel
set_option maxRecDepth 100000 in
theorem ltb_6 : (Int8.ofInt (6)).toInt32 = J (6) := by decide +kernel
set_option maxRecDepth 100000 in
theorem gcs2_57 : gFind (gCS 2) 57 = some (2, 114) := by decide +kernel
set_option maxRecDepth 100000 in
theorem gcs3_3 : gFind (gCS 3) 3 = some (6, 0) := by decide +kernel
set_option maxRecDepth 100000 in
theorem gf3_9 : gFind (gFS 3) 9 = some (3, 0) := by decide +kernel
set_option maxRecDepth 100000 in
theorem gf3_15 : gFind (gFS 3) 15 = some (3, 1) := by decide +kernel
set_option maxRecDepth 100000 in
theorem gf3_19 : gFind (gFS 3) 19 = some (3, 2) := by decide +kernel
set_option maxRecDepth 100000 in
theorem gcs3_23 : gFind (gCS 3) 23 = some (0, 14) := by decide +kernel
set_option maxRecDepth 100000 in
theorem gcs3_28 : gFind (gCS 3) 28 = some (0, 27) := by decide +kernel
set_option maxRecDepth 100000 in
theorem gcs3_32 : gFind (gCS 3) 32 = some (2, 117) := by decide +kernel
set_option maxRecDepth 100000 in
theorem gcs3_36 : gFind (gCS 3) 36 = some (0, 28) := by decide +kernel
set_option maxRecDepth 100000 in
theorem ltb_48 : (Int8.ofInt (48)).toInt32 = J (48) := by decide +kernel
set_option maxRecDepth 100000 in
theorem ltb_57 : (Int8.ofInt (57)).toInt32 = J (57) := by decide +kernel
set_option maxRecDepth 100000 in
theorem gcs3_40 : gFind (gCS 3) 40 = some (2, 113) := by decide +kernel
set_option maxRecDepth 100000 in
theorem ltb_10 : (Int8.ofInt (10)).toInt32 = J (10) := by decide +kernel
set_option maxRecDepth 100000 in
theorem ltb_44 : (Int8.ofInt (44)).toInt32 = J (44) := by decide +kernel
set_option maxRecDepth 100000 in
theorem ltb_59 : (Int8.ofInt (59)).toInt32 = J (59) := by decide +kernel
set_option maxRecDepth 100000 in
theorem gcs3_44 : gFind (gCS 3) 44 = some (2, 118) := by decide +kernel
set_option maxRecDepth 100000 in
theorem ltb_112 : (Int8.ofInt (112)).toInt32 = J (112) := by decide +kernel
set_option maxRecDepth 100000 in
theorem gcs3_48 : gFind (gCS 3) 48 = some (0, 29) := by decide +kernel
set_option maxRecDepth 100000 in
theorem gcs3_52 : gFind (gCS 3) 52 = some (0, 30) := by decide +kernel
set_option maxRecDepth 100000 in
theorem gcs3_55 : gFind (gCS 3) 55 = some (0, 31) := by decide +kernel
set_option maxRecDepth 100000 in
theorem gcs3_58 : gFind (gCS 3) 58 = some (0, 32) := by decide +kernel
set_option maxRecDepth 100000 in
theorem gcs3_61 : gFind (gCS 3) 61 = some (0, 33) := by decide +kernel
set_option maxRecDepth 100000 in
theorem gcs3_64 : gFind (gCS 3) 64 = some (0, 34) := by decide +kernel
set_option maxRecDepth 100000 in
theorem gf3_67 : gFind (gFS 3) 67 = some (2, 0) := by decide +kernel
set_option maxRecDepth 100000 in
theorem gf3_70 : gFind (gFS 3) 70 = some (2, 1) := by decide +kernel
set_option maxRecDepth 100000 in
theorem ltb_20 : (Int8.ofInt (20)).toInt32 = J (20) := by decide +kernel
set_option maxRecDepth 100000 in
theorem gcs3_73 : gFind (gCS 3) 73 = some (0, 15) := by decide +kernel
set_option maxRecDepth 100000 in
theorem gf3_77 : gFind (gFS 3) 77 = some (2, 2) := by decide +kernel
set_option maxRecDepth 100000 in
theorem ltb_9 : (Int8.ofInt (9)).toInt32 = J (9) := by decide +kernel
set_option maxRecDepth 100000 in
theorem gcs3_80 : gFind (gCS 3) 80 = some (0, 16) := by decide +kernel
set_option maxRecDepth 100000 in
theorem gf3_83 : gFind (gFS 3) 83 = some (2, 3) := by decide +kernel
set_option maxRecDepth 100000 in
theorem gf3_86 : gFind (gFS 3) 86 = some (2, 4) := by decide +kernel
set_option maxRecDepth 100000 in
theorem gcs3_89 : gFind (gCS 3) 89 = some (0, 17) := by decide +kernel
set_option maxRecDepth 100000 in
theorem gcs4_3 : gFind (gCS 4) 3 = some (6, 0) := by decide +kernel
set_option maxRecDepth 100000 in
theorem gf4_9 : gFind (gFS 4) 9 = some (4, 0) := by decide +kernel
set_option maxRecDepth 100000 in
theorem gf4_15 : gFind (gFS 4) 15 = some (4, 1) := by decide +kernel
set_option maxRecDepth 100000 in
theorem gf4_18 : gFind (gFS 4) 18 = some (4, 2) := by decide +kernel
set_option maxRecDepth 100000 in
theorem gf4_22 : gFind (gFS 4) 22 = some (4, 3) := by decide +kernel
set_option maxRecDepth 100000 in
theorem gns4_25 : gFind2 (gNS 4) 25 = some 7 := by decide +kernel
set_option maxRecDepth 100000 in
theorem gf4_27 : gFind (gFS 4) 27 = some (4, 4) := by decide +kernel
set_option maxRecDepth 100000 in
theorem gf4_31 : gFind (gFS 4) 31 = some (4, 5) := by decide +kernel
set_option maxRecDepth 100000 in
theorem gf4_34 : gFind (gFS 4) 34 = some (4, 6) := by decide +kernel
set_option maxRecDepth 100000 in
theorem gcs4_37 : gFind (gCS 4) 37 = some (4, 56) := by decide +kernel
set_option maxRecDepth 100000 in
theorem gcs4_38 : gFind (gCS 4) 38 = some (0, 40) := by decide +kernel
set_option maxRecDepth 100000 in
theorem gcs4_42 : gFind (gCS 4) 42 = some (0, 58) := by decide +kernel
set_option maxRecDepth 100000 in
theorem gcs4_46 : gFind (gCS 4) 46 = some (0, 67) := by decide +kernel
set_option maxRecDepth 100000 in
theorem gf4_49 : gFind (gFS 4) 49 = some (2, 1) := by decide +kernel
set_option maxRecDepth 100000 in
theorem gcs4_54 : gFind (gCS 4) 54 = some (0, 62) := by decide +kernel
set_option maxRecDepth 100000 in
theorem gcs4_58 : gFind (gCS 4) 58 = some (0, 38) := by decide +kernel
set_option maxRecDepth 100000 in
theorem gcs4_62 : gFind (gCS 4) 62 = some (0, 66) := by decide +kernel
set_option maxRecDepth 100000 in
theorem gcs4_66 : gFind (gCS 4) 66 = some (0, 70) := by decide +kernel
set_option maxRecDepth 100000 in
theorem gcs4_70 : gFind (gCS 4) 70 = some (2, 118) := by decide +kernel
set_option maxRecDepth 100000 in
theorem gcs4_74 : gFind (gCS 4) 74 = some (0, 39) := by decide +kernel
set_option maxRecDepth 100000 in
theorem gcs4_77 : gFind (gCS 4) 77 = some (0, 37) := by decide +kernel
set_option maxRecDepth 100000 in
theorem gcs4_81 : gFind (gCS 4) 81 = some (2, 117) := by decide +kernel
set_option maxRecDepth 100000 in
theorem gcs5_3 : gFind (gCS 5) 3 = some (6, 0) := by decide +kernel
set_option maxRecDepth 100000 in
theorem gf5_9 : gFind (gFS 5) 9 = some (5, 0) := by decide +kernel
set_option maxRecDepth 100000 in
theorem gf5_15 : gFind (gFS 5) 15 = some (5, 1) := by decide +kernel
set_option maxRecDepth 100000 in
theorem gf5_18 : gFind (gFS 5) 18 = some (5, 2) := by decide +kernel
set_option maxRecDepth 100000 in
theorem gf5_21 : gFind (gFS 5) 21 = some (5, 3) := by decide +kernel
set_option maxRecDepth 100000 in
theorem gf5_24 : gFind (gFS 5) 24 = some (5, 4) := by decide +kernel
set_option maxRecDepth 100000 in
theorem gf5_27 : gFind (gFS 5) 27 = some (5, 5) := by decide +kernel
set_option maxRecDepth 100000 in
theorem gf5_31 : gFind (gFS 5) 31 = some (5, 6) := by decide +kernel
set_option maxRecDepth 100000 in
theorem gf5_34 : gFind (gFS 5) 34 = some (5, 7) := by decide +kernel
set_option maxRecDepth 100000 in
theorem ltb_64 : (Int8.ofInt (64)).toInt32 = J (64) := by decide +kernel
set_option maxRecDepth 100000 in
theorem gf5_37 : gFind (gFS 5) 37 = some (5, 8) := by decide +kernel
set_option maxRecDepth 100000 in
theorem gcs5_40 : gFind (gCS 5) 40 = some (2, 118) := by decide +kernel
set_option maxRecDepth 100000 in
theorem gcs5_44 : gFind (gCS 5) 44 = some (0, 45) := by decide +kernel
set_option maxRecDepth 100000 in
theorem gf5_47 : gFind (gFS 5) 47 = some (2, 1) := by decide +kernel
set_option maxRecDepth 100000 in
theorem gcs5_52 : gFind (gCS 5) 52 = some (0, 7) := by decide +kernel
set_option maxRecDepth 100000 in
theorem gcs5_58 : gFind (gCS 5) 58 = some (0, 46) := by decide +kernel
set_option maxRecDepth 100000 in
theorem gcs5_62 : gFind (gCS 5) 62 = some (0, 47) := by decide +kernel
set_option maxRecDepth 100000 in
theorem gcs5_66 : gFind (gCS 5) 66 = some (2, 117) := by decide +kernel
set_option maxRecDepth 100000 in
theorem gcs5_70 : gFind (gCS 5) 70 = some (0, 9) := by decide +kernel
set_option maxRecDepth 100000 in
theorem gcs5_74 : gFind (gCS 5) 74 = some (2, 116) := by decide +kernel
set_option maxRecDepth 100000 in
theorem gf5_78 : gFind (gFS 5) 78 = some (2, 0) := by decide +kernel
set_option maxRecDepth 100000 in
theorem gcs5_81 : gFind (gCS 5) 81 = some (9, 0) := by decide +kernel
set_option maxRecDepth 100000 in
theorem gcs5_87 : gFind (gCS 5) 87 = some (0, 49) := by decide +kernel
set_option maxRecDepth 100000 in
theorem gcs6_1 : gFind (gCS 6) 1 = some (6, 0) := by decide +kernel
set_option maxRecDepth 100000 in
theorem gf6_7 : gFind (gFS 6) 7 = some (6, 0) := by decide +kernel
set_option maxRecDepth 100000 in
theorem gf6_13 : gFind (gFS 6) 13 = some (6, 1) := by decide +kernel
set_option maxRecDepth 100000 in
theorem gcs6_16 : gFind (gCS 6) 16 = some (9, 0) := by decide +kernel
set_option maxRecDepth 100000 in
theorem gns6_22 : gFind2 (gNS 6) 22 = some 7 := by decide +kernel
set_option maxRecDepth 100000 in
theorem gf6_24 : gFind (gFS 6) 24 = some (6, 2) := by decide +kernel
set_option maxRecDepth 100000 in
theorem gcs6_28 : gFind (gCS 6) 28 = some (4, 56) := by decide +kernel
set_option maxRecDepth 100000 in
theorem gcs6_29 : gFind (gCS 6) 29 = some (0, 55) := by decide +kernel
set_option maxRecDepth 100000 in
theorem gcs6_33 : gFind (gCS 6) 33 = some (0, 54) := by decide +kernel
set_option maxRecDepth 100000 in
theorem gcs6_37 : gFind (gCS 6) 37 = some (0, 58) := by decide +kernel
set_option maxRecDepth 100000 in
theorem gcs7_3 : gFind (gCS 7) 3 = some (6, 0) := by decide +kernel
set_option maxRecDepth 100000 in
theorem gf7_9 : gFind (gFS 7) 9 = some (7, 0) := by decide +kernel
set_option maxRecDepth 100000 in
theorem gf7_15 : gFind (gFS 7) 15 = some (7, 1) := by decide +kernel
set_option maxRecDepth 100000 in
theorem gf7_19 : gFind (gFS 7) 19 = some (7, 2) := by decide +kernel
set_option maxRecDepth 100000 in
theorem gf7_22 : gFind (gFS 7) 22 = some (7, 3) := by decide +kernel
set_option maxRecDepth 100000 in
theorem gcs7_25 : gFind (gCS 7) 25 = some (2, 118) := by decide +kernel
set_option maxRecDepth 100000 in
theorem gcs7_29 : gFind (gCS 7) 29 = some (0, 19) := by decide +kernel
set_option maxRecDepth 100000 in
theorem gcs7_35 : gFind (gCS 7) 35 = some (2, 117) := by decide +kernel
set_option maxRecDepth 100000 in
theorem gcs7_39 : gFind (gCS 7) 39 = some (0, 18) := by decide +kernel
set_option maxRecDepth 100000 in
theorem gf7_42 : gFind (gFS 7) 42 = some (2, 1) := by decide +kernel
set_option maxRecDepth 100000 in
theorem gcs7_45 : gFind (gCS 7) 45 = some (0, 62) := by decide +kernel
set_option maxRecDepth 100000 in
theorem gf7_49 : gFind (gFS 7) 49 = some (2, 2) := by decide +kernel
set_option maxRecDepth 100000 in
theorem gcs7_52 : gFind (gCS 7) 52 = some (2, 116) := by decide +kernel
set_option maxRecDepth 100000 in
theorem gcs7_56 : gFind (gCS 7) 56 = some (0, 22) := by decide +kernel
set_option maxRecDepth 100000 in
theorem gcs7_60 : gFind (gCS 7) 60 = some (0, 71) := by decide +kernel
set_option maxRecDepth 100000 in
theorem gcs7_64 : gFind (gCS 7) 64 = some (0, 20) := by decide +kernel
set_option maxRecDepth 100000 in
theorem gcs7_67 : gFind (gCS 7) 67 = some (0, 72) := by decide +kernel
set_option maxRecDepth 100000 in
theorem gcs7_71 : gFind (gCS 7) 71 = some (0, 74) := by decide +kernel
set_option maxRecDepth 100000 in
theorem gcs7_75 : gFind (gCS 7) 75 = some (8, 0) := by decide +kernel
set_option maxRecDepth 100000 in
theorem gcs7_80 : gFind (gCS 7) 80 = some (9, 0) := by decide +kernel
set_option maxRecDepth 100000 in
theorem gcs7_83 : gFind (gCS 7) 83 = some (0, 23) := by decide +kernel
set_option maxRecDepth 100000 in
theorem gcs7_86 : gFind (gCS 7) 86 = some (0, 73) := by decide +kernel
set_option maxRecDepth 100000 in
theorem gcs8_1 : gFind (gCS 8) 1 = some (6, 0) := by decide +kernel
set_option maxRecDepth 100000 in
theorem lts_200 : (Int16.ofInt (200)).toInt32 = J (200) := by decide +kernel
set_option maxRecDepth 100000 in
theorem gf8_9 : gFind (gFS 8) 9 = some (8, 0) := by decide +kernel
set_option maxRecDepth 100000 in
theorem gf8_13 : gFind (gFS 8) 13 = some (8, 1) := by decide +kernel
set_option maxRecDepth 100000 in
theorem gns8_17 : gFind2 (gNS 8) 17 = some 3 := by decide +kernel
set_option maxRecDepth 100000 in
theorem gcs8_19 : gFind (gCS 8) 19 = some (4, 25) := by decide +kernel
set_option maxRecDepth 100000 in
theorem gf8_20 : gFind (gFS 8) 20 = some (8, 2) := by decide +kernel
set_option maxRecDepth 100000 in
theorem gns8_24 : gFind2 (gNS 8) 24 = some 2 := by decide +kernel
set_option maxRecDepth 100000 in
theorem gcs8_26 : gFind (gCS 8) 26 = some (4, 13) := by decide +kernel
set_option maxRecDepth 100000 in
theorem gf8_27 : gFind (gFS 8) 27 = some (8, 3) := by decide +kernel
set_option maxRecDepth 100000 in
theorem gf8_31 : gFind (gFS 8) 31 = some (8, 4) := by decide +kernel
set_option maxRecDepth 100000 in
theorem gns8_34 : gFind2 (gNS 8) 34 = some 7 := by decide +kernel
set_option maxRecDepth 100000 in
theorem gcs8_36 : gFind (gCS 8) 36 = some (4, 56) := by decide +kernel
set_option maxRecDepth 100000 in
theorem gf8_37 : gFind (gFS 8) 37 = some (8, 5) := by decide +kernel
set_option maxRecDepth 100000 in
theorem gf8_41 : gFind (gFS 8) 41 = some (8, 6) := by decide +kernel
set_option maxRecDepth 100000 in
theorem gns8_44 : gFind2 (gNS 8) 44 = some 6 := by decide +kernel
set_option maxRecDepth 100000 in
theorem gcs8_46 : gFind (gCS 8) 46 = some (3, 50) := by decide +kernel
set_option maxRecDepth 100000 in
theorem gf8_49 : gFind (gFS 8) 49 = some (8, 7) := by decide +kernel
set_option maxRecDepth 100000 in
theorem gf8_53 : gFind (gFS 8) 53 = some (8, 8) := by decide +kernel
set_option maxRecDepth 100000 in
theorem gns8_56 : gFind2 (gNS 8) 56 = some 5 := by decide +kernel
set_option maxRecDepth 100000 in
theorem gcs8_58 : gFind (gCS 8) 58 = some (4, 41) := by decide +kernel
set_option maxRecDepth 100000 in
theorem gf8_59 : gFind (gFS 8) 59 = some (8, 9) := by decide +kernel
set_option maxRecDepth 100000 in
theorem gns8_63 : gFind2 (gNS 8) 63 = some 1 := by decide +kernel
set_option maxRecDepth 100000 in
theorem gcs8_65 : gFind (gCS 8) 65 = some (4, 6) := by decide +kernel
set_option maxRecDepth 100000 in
theorem gf8_66 : gFind (gFS 8) 66 = some (8, 10) := by decide +kernel
set_option maxRecDepth 100000 in
theorem gns8_70 : gFind2 (gNS 8) 70 = some 4 := by decide +kernel
set_option maxRecDepth 100000 in
theorem gcs8_72 : gFind (gCS 8) 72 = some (3, 35) := by decide +kernel
set_option maxRecDepth 100000 in
theorem gf8_73 : gFind (gFS 8) 73 = some (8, 11) := by decide +kernel
set_option maxRecDepth 100000 in
theorem gns8_77 : gFind2 (gNS 8) 77 = some 0 := by decide +kernel
set_option maxRecDepth 100000 in
theorem gcs8_79 : gFind (gCS 8) 79 = some (4, 0) := by decide +kernel
set_option maxRecDepth 100000 in
theorem gf8_80 : gFind (gFS 8) 80 = some (8, 12) := by decide +kernel
set_option maxRecDepth 100000 in
theorem gcs8_86 : gFind (gCS 8) 86 = some (10, 0) := by decide +kernel
set_option maxRecDepth 100000 in
theorem gcs8_92 : gFind (gCS 8) 92 = some (8, 0) := by decide +kernel
set_option maxRecDepth 100000 in
theorem gcs8_98 : gFind (gCS 8) 98 = some (11, 0) := by decide +kernel
set_option maxRecDepth 100000 in
theorem gcs8_102 : gFind (gCS 8) 102 = some (1, 118) := by decide +kernel
set_option maxRecDepth 100000 in
theorem gcs8_106 : gFind (gCS 8) 106 = some (0, 26) := by decide +kernel
set_option maxRecDepth 100000 in
theorem gcs8_110 : gFind (gCS 8) 110 = some (0, 104) := by decide +kernel
set_option maxRecDepth 100000 in
theorem ltb_32 : (Int8.ofInt (32)).toInt32 = J (32) := by decide +kernel
set_option maxRecDepth 100000 in
theorem ltb_126 : (Int8.ofInt (126)).toInt32 = J (126) := by decide +kernel
set_option maxRecDepth 100000 in
theorem ltb_m3 : (Int8.ofInt (-3)).toInt32 = J (-3) := by decide +kernel
set_option maxRecDepth 100000 in
theorem gf8_113 : gFind (gFS 8) 113 = some (2, 1) := by decide +kernel
set_option maxRecDepth 100000 in
theorem gf8_116 : gFind (gFS 8) 116 = some (2, 2) := by decide +kernel
set_option maxRecDepth 100000 in
theorem ltb_m2 : (Int8.ofInt (-2)).toInt32 = J (-2) := by decide +kernel
set_option maxRecDepth 100000 in
theorem gcs8_119 : gFind (gCS 8) 119 = some (0, 105) := by decide +kernel
set_option maxRecDepth 100000 in
theorem gcs8_123 : gFind (gCS 8) 123 = some (1, 113) := by decide +kernel
set_option maxRecDepth 100000 in
theorem gcs8_127 : gFind (gCS 8) 127 = some (0, 18) := by decide +kernel
set_option maxRecDepth 100000 in
theorem gcs8_130 : gFind (gCS 8) 130 = some (0, 59) := by decide +kernel
set_option maxRecDepth 100000 in
theorem gcs8_134 : gFind (gCS 8) 134 = some (0, 62) := by decide +kernel
set_option maxRecDepth 100000 in
theorem gcs8_138 : gFind (gCS 8) 138 = some (1, 116) := by decide +kernel
set_option maxRecDepth 100000 in
theorem gcs8_142 : gFind (gCS 8) 142 = some (0, 106) := by decide +kernel
set_option maxRecDepth 100000 in
theorem gcs8_145 : gFind (gCS 8) 145 = some (0, 60) := by decide +kernel
set_option maxRecDepth 100000 in
theorem gcs8_148 : gFind (gCS 8) 148 = some (0, 61) := by decide +kernel
set_option maxRecDepth 100000 in
theorem gcs8_151 : gFind (gCS 8) 151 = some (0, 19) := by decide +kernel
set_option maxRecDepth 100000 in
theorem ltb_99 : (Int8.ofInt (99)).toInt32 = J (99) := by decide +kernel
set_option maxRecDepth 100000 in
theorem gf8_154 : gFind (gFS 8) 154 = some (7, 0) := by decide +kernel
set_option maxRecDepth 100000 in
theorem gcs8_157 : gFind (gCS 8) 157 = some (0, 20) := by decide +kernel
set_option maxRecDepth 100000 in
theorem gcs8_160 : gFind (gCS 8) 160 = some (0, 22) := by decide +kernel
set_option maxRecDepth 100000 in
theorem gcs8_163 : gFind (gCS 8) 163 = some (0, 107) := by decide +kernel
set_option maxRecDepth 100000 in
theorem gcs8_166 : gFind (gCS 8) 166 = some (0, 63) := by decide +kernel
set_option maxRecDepth 100000 in
theorem gcs8_170 : gFind (gCS 8) 170 = some (0, 7) := by decide +kernel
set_option maxRecDepth 100000 in
theorem gcs8_174 : gFind (gCS 8) 174 = some (0, 9) := by decide +kernel
set_option maxRecDepth 100000 in
theorem gcs8_178 : gFind (gCS 8) 178 = some (0, 52) := by decide +kernel
set_option maxRecDepth 100000 in
theorem gcs8_182 : gFind (gCS 8) 182 = some (0, 66) := by decide +kernel
set_option maxRecDepth 100000 in
theorem gcs8_186 : gFind (gCS 8) 186 = some (0, 69) := by decide +kernel
set_option maxRecDepth 100000 in
theorem gcs8_189 : gFind (gCS 8) 189 = some (0, 68) := by decide +kernel
set_option maxRecDepth 100000 in
theorem gcs8_192 : gFind (gCS 8) 192 = some (1, 192) := by decide +kernel
set_option maxRecDepth 100000 in
theorem gf8_197 : gFind (gFS 8) 197 = some (6, 0) := by decide +kernel
set_option maxRecDepth 100000 in
theorem gcs8_200 : gFind (gCS 8) 200 = some (0, 53) := by decide +kernel
set_option maxRecDepth 100000 in
theorem gcs8_203 : gFind (gCS 8) 203 = some (0, 58) := by decide +kernel
set_option maxRecDepth 100000 in
theorem ltb_60 : (Int8.ofInt (60)).toInt32 = J (60) := by decide +kernel
set_option maxRecDepth 100000 in
theorem gcs8_206 : gFind (gCS 8) 206 = some (0, 70) := by decide +kernel
set_option maxRecDepth 100000 in
theorem gcs8_210 : gFind (gCS 8) 210 = some (0, 21) := by decide +kernel
set_option maxRecDepth 100000 in
theorem gcs8_213 : gFind (gCS 8) 213 = some (0, 36) := by decide +kernel
set_option maxRecDepth 100000 in
theorem gcs8_217 : gFind (gCS 8) 217 = some (7, 37) := by decide +kernel
set_option maxRecDepth 100000 in
theorem gf8_221 : gFind (gFS 8) 221 = some (4, 0) := by decide +kernel
set_option maxRecDepth 100000 in
theorem gf8_224 : gFind (gFS 8) 224 = some (4, 1) := by decide +kernel
set_option maxRecDepth 100000 in
theorem gf8_227 : gFind (gFS 8) 227 = some (4, 2) := by decide +kernel
set_option maxRecDepth 100000 in
theorem gcs8_230 : gFind (gCS 8) 230 = some (1, 117) := by decide +kernel
set_option maxRecDepth 100000 in
theorem gcs8_234 : gFind (gCS 8) 234 = some (0, 1) := by decide +kernel
set_option maxRecDepth 100000 in
theorem gf8_238 : gFind (gFS 8) 238 = some (0, 0) := by decide +kernel
set_option maxRecDepth 100000 in
theorem gf8_239 : gFind (gFS 8) 239 = some (0, 1) := by decide +kernel
set_option maxRecDepth 100000 in
theorem gcs8_240 : gFind (gCS 8) 240 = some (0, 24) := by decide +kernel
set_option maxRecDepth 100000 in
theorem gcs8_243 : gFind (gCS 8) 243 = some (0, 10) := by decide +kernel
set_option maxRecDepth 100000 in
theorem gf8_246 : gFind (gFS 8) 246 = some (5, 0) := by decide +kernel
set_option maxRecDepth 100000 in
theorem gcs8_247 : gFind (gCS 8) 247 = some (0, 43) := by decide +kernel
set_option maxRecDepth 100000 in
theorem gcs8_250 : gFind (gCS 8) 250 = some (0, 42) := by decide +kernel
set_option maxRecDepth 100000 in
theorem gcs8_253 : gFind (gCS 8) 253 = some (0, 44) := by decide +kernel
set_option maxRecDepth 100000 in
theorem gf8_257 : gFind (gFS 8) 257 = some (5, 1) := by decide +kernel
set_option maxRecDepth 100000 in
theorem gf8_260 : gFind (gFS 8) 260 = some (5, 2) := by decide +kernel
set_option maxRecDepth 100000 in
theorem gcs8_263 : gFind (gCS 8) 263 = some (0, 48) := by decide +kernel
set_option maxRecDepth 100000 in
theorem gf8_267 : gFind (gFS 8) 267 = some (5, 3) := by decide +kernel
set_option maxRecDepth 100000 in
theorem gf8_270 : gFind (gFS 8) 270 = some (5, 4) := by decide +kernel
set_option maxRecDepth 100000 in
theorem gcs8_273 : gFind (gCS 8) 273 = some (1, 108) := by decide +kernel
set_option maxRecDepth 100000 in
theorem gcs8_277 : gFind (gCS 8) 277 = some (0, 109) := by decide +kernel
set_option maxRecDepth 100000 in
theorem gcs8_280 : gFind (gCS 8) 280 = some (1, 112) := by decide +kernel
set_option maxRecDepth 100000 in
theorem lts_9999 : (Int16.ofInt (9999)).toInt32 = J (9999) := by decide +kernel
set_option maxRecDepth 100000 in
theorem gcs8_283 : gFind (gCS 8) 283 = some (1, 110) := by decide +kernel
set_option maxRecDepth 100000 in
theorem gcs8_286 : gFind (gCS 8) 286 = some (0, 111) := by decide +kernel
set_option maxRecDepth 100000 in
theorem gcs8_289 : gFind (gCS 8) 289 = some (0, 64) := by decide +kernel
set_option maxRecDepth 100000 in
theorem gcs8_292 : gFind (gCS 8) 292 = some (0, 51) := by decide +kernel
set_option maxRecDepth 100000 in
theorem gf8_293 : gFind (gFS 8) 293 = some (2, 0) := by decide +kernel
set_option maxRecDepth 100000 in
theorem gcs8_296 : gFind (gCS 8) 296 = some (0, 65) := by decide +kernel
set_option maxRecDepth 100000 in
theorem gcs8_299 : gFind (gCS 8) 299 = some (0, 12) := by decide +kernel
set_option maxRecDepth 100000 in
theorem gcs8_302 : gFind (gCS 8) 302 = some (0, 57) := by decide +kernel
set_option maxRecDepth 100000 in
theorem gcs8_305 : gFind (gCS 8) 305 = some (1, 114) := by decide +kernel
set_option maxRecDepth 100000 in
theorem gcs8_308 : gFind (gCS 8) 308 = some (0, 71) := by decide +kernel
set_option maxRecDepth 100000 in
theorem gkl8_312 : gKL.find? (fun q => q.1 == (8, 312)) = some ((8, 312), 7919) := by decide +kernel
set_option maxRecDepth 100000 in
theorem gkl8_314 : gKL.find? (fun q => q.1 == (8, 314)) = some ((8, 314), 6151) := by decide +kernel
set_option maxRecDepth 100000 in
theorem gkl8_316 : gKL.find? (fun q => q.1 == (8, 316)) = some ((8, 316), 65521) := by decide +kernel
set_option maxRecDepth 100000 in
theorem lts_1000 : (Int16.ofInt (1000)).toInt32 = J (1000) := by decide +kernel
set_option maxRecDepth 100000 in
theorem gcs8_318 : gFind (gCS 8) 318 = some (1, 115) := by decide +kernel
set_option maxRecDepth 100000 in
theorem gcs9_1 : gFind (gCS 9) 1 = some (6, 0) := by decide +kernel
set_option maxRecDepth 100000 in
theorem gf9_7 : gFind (gFS 9) 7 = some (9, 1) := by decide +kernel
set_option maxRecDepth 100000 in
theorem gf9_13 : gFind (gFS 9) 13 = some (9, 3) := by decide +kernel
set_option maxRecDepth 100000 in
theorem ltb_65 : (Int8.ofInt (65)).toInt32 = J (65) := by decide +kernel
set_option maxRecDepth 100000 in
theorem gf9_16 : gFind (gFS 9) 16 = some (9, 4) := by decide +kernel
set_option maxRecDepth 100000 in
theorem ltb_17 : (Int8.ofInt (17)).toInt32 = J (17) := by decide +kernel
set_option maxRecDepth 100000 in
theorem gf9_19 : gFind (gFS 9) 19 = some (9, 5) := by decide +kernel
set_option maxRecDepth 100000 in
theorem gf9_22 : gFind (gFS 9) 22 = some (9, 7) := by decide +kernel
set_option maxRecDepth 100000 in
theorem gf9_25 : gFind (gFS 9) 25 = some (9, 8) := by decide +kernel
set_option maxRecDepth 100000 in
theorem gf9_28 : gFind (gFS 9) 28 = some (9, 9) := by decide +kernel
set_option maxRecDepth 100000 in
theorem lts_136 : (Int16.ofInt (136)).toInt32 = J (136) := by decide +kernel
set_option maxRecDepth 100000 in
theorem gf9_31 : gFind (gFS 9) 31 = some (9, 12) := by decide +kernel
set_option maxRecDepth 100000 in
theorem gf9_34 : gFind (gFS 9) 34 = some (9, 14) := by decide +kernel
set_option maxRecDepth 100000 in
theorem gf9_37 : gFind (gFS 9) 37 = some (9, 15) := by decide +kernel
set_option maxRecDepth 100000 in
theorem gf9_40 : gFind (gFS 9) 40 = some (9, 16) := by decide +kernel
set_option maxRecDepth 100000 in
theorem ltb_34 : (Int8.ofInt (34)).toInt32 = J (34) := by decide +kernel
set_option maxRecDepth 100000 in
theorem gf9_43 : gFind (gFS 9) 43 = some (9, 18) := by decide +kernel
set_option maxRecDepth 100000 in
theorem ltb_14 : (Int8.ofInt (14)).toInt32 = J (14) := by decide +kernel
set_option maxRecDepth 100000 in
theorem gcs9_46 : gFind (gCS 9) 46 = some (0, 120) := by decide +kernel
set_option maxRecDepth 100000 in
theorem ltb_15 : (Int8.ofInt (15)).toInt32 = J (15) := by decide +kernel
set_option maxRecDepth 100000 in
theorem ltb_26 : (Int8.ofInt (26)).toInt32 = J (26) := by decide +kernel
set_option maxRecDepth 100000 in
theorem ltb_33 : (Int8.ofInt (33)).toInt32 = J (33) := by decide +kernel
set_option maxRecDepth 100000 in
theorem ltb_7 : (Int8.ofInt (7)).toInt32 = J (7) := by decide +kernel
set_option maxRecDepth 100000 in
theorem gcs9_50 : gFind (gCS 9) 50 = some (0, 121) := by decide +kernel
set_option maxRecDepth 100000 in
theorem ltb_18 : (Int8.ofInt (18)).toInt32 = J (18) := by decide +kernel
set_option maxRecDepth 100000 in
theorem ltb_30 : (Int8.ofInt (30)).toInt32 = J (30) := by decide +kernel
set_option maxRecDepth 100000 in
theorem ltb_13 : (Int8.ofInt (13)).toInt32 = J (13) := by decide +kernel
set_option maxRecDepth 100000 in
theorem gcs9_54 : gFind (gCS 9) 54 = some (1, 122) := by decide +kernel
set_option maxRecDepth 100000 in
theorem gf9_58 : gFind (gFS 9) 58 = some (9, 0) := by decide +kernel
set_option maxRecDepth 100000 in
theorem gf9_62 : gFind (gFS 9) 62 = some (9, 2) := by decide +kernel
set_option maxRecDepth 100000 in
theorem gcs9_65 : gFind (gCS 9) 65 = some (0, 127) := by decide +kernel
set_option maxRecDepth 100000 in
theorem gcs9_69 : gFind (gCS 9) 69 = some (1, 128) := by decide +kernel
set_option maxRecDepth 100000 in
theorem gcs9_73 : gFind (gCS 9) 73 = some (0, 129) := by decide +kernel
set_option maxRecDepth 100000 in
theorem gf9_76 : gFind (gFS 9) 76 = some (9, 6) := by decide +kernel
set_option maxRecDepth 100000 in
theorem gcs9_80 : gFind (gCS 9) 80 = some (0, 130) := by decide +kernel
set_option maxRecDepth 100000 in
theorem gcs9_84 : gFind (gCS 9) 84 = some (0, 131) := by decide +kernel
set_option maxRecDepth 100000 in
theorem gcs9_87 : gFind (gCS 9) 87 = some (0, 132) := by decide +kernel
set_option maxRecDepth 100000 in
theorem gcs9_90 : gFind (gCS 9) 90 = some (0, 133) := by decide +kernel
set_option maxRecDepth 100000 in
theorem gcs9_93 : gFind (gCS 9) 93 = some (0, 134) := by decide +kernel
set_option maxRecDepth 100000 in
theorem gcs9_96 : gFind (gCS 9) 96 = some (0, 135) := by decide +kernel
set_option maxRecDepth 100000 in
theorem gcs9_99 : gFind (gCS 9) 99 = some (0, 136) := by decide +kernel
set_option maxRecDepth 100000 in
theorem gf9_103 : gFind (gFS 9) 103 = some (9, 10) := by decide +kernel
set_option maxRecDepth 100000 in
theorem gf9_106 : gFind (gFS 9) 106 = some (9, 17) := by decide +kernel
set_option maxRecDepth 100000 in
theorem gf9_109 : gFind (gFS 9) 109 = some (9, 13) := by decide +kernel
set_option maxRecDepth 100000 in
theorem gcs9_112 : gFind (gCS 9) 112 = some (0, 141) := by decide +kernel
set_option maxRecDepth 100000 in
theorem gcs9_116 : gFind (gCS 9) 116 = some (0, 142) := by decide +kernel
set_option maxRecDepth 100000 in
theorem gcs9_120 : gFind (gCS 9) 120 = some (0, 146) := by decide +kernel
set_option maxRecDepth 100000 in
theorem gcs9_123 : gFind (gCS 9) 123 = some (0, 144) := by decide +kernel
set_option maxRecDepth 100000 in
theorem gcs9_126 : gFind (gCS 9) 126 = some (0, 147) := by decide +kernel
set_option maxRecDepth 100000 in
theorem gcs9_130 : gFind (gCS 9) 130 = some (0, 145) := by decide +kernel
set_option maxRecDepth 100000 in
theorem gcs9_133 : gFind (gCS 9) 133 = some (0, 148) := by decide +kernel
set_option maxRecDepth 100000 in
theorem gcs9_137 : gFind (gCS 9) 137 = some (0, 138) := by decide +kernel
set_option maxRecDepth 100000 in
theorem gcs9_140 : gFind (gCS 9) 140 = some (0, 139) := by decide +kernel
set_option maxRecDepth 100000 in
theorem gcs9_143 : gFind (gCS 9) 143 = some (1, 123) := by decide +kernel
set_option maxRecDepth 100000 in
theorem gcs9_147 : gFind (gCS 9) 147 = some (0, 153) := by decide +kernel
set_option maxRecDepth 100000 in
theorem gcs9_150 : gFind (gCS 9) 150 = some (0, 154) := by decide +kernel
set_option maxRecDepth 100000 in
theorem gcs9_153 : gFind (gCS 9) 153 = some (1, 124) := by decide +kernel
set_option maxRecDepth 100000 in
theorem gcs9_156 : gFind (gCS 9) 156 = some (0, 140) := by decide +kernel
set_option maxRecDepth 100000 in
theorem gcs9_159 : gFind (gCS 9) 159 = some (0, 143) := by decide +kernel
set_option maxRecDepth 100000 in
theorem gf9_163 : gFind (gFS 9) 163 = some (9, 11) := by decide +kernel
set_option maxRecDepth 100000 in
theorem gcs9_166 : gFind (gCS 9) 166 = some (0, 159) := by decide +kernel
set_option maxRecDepth 100000 in
theorem gcs9_170 : gFind (gCS 9) 170 = some (0, 158) := by decide +kernel
set_option maxRecDepth 100000 in
theorem gcs9_173 : gFind (gCS 9) 173 = some (0, 149) := by decide +kernel
set_option maxRecDepth 100000 in
theorem gcs9_177 : gFind (gCS 9) 177 = some (0, 164) := by decide +kernel
set_option maxRecDepth 100000 in
theorem gcs9_180 : gFind (gCS 9) 180 = some (0, 167) := by decide +kernel
set_option maxRecDepth 100000 in
theorem gk9_183 : gKS.find? (fun q => q.1 == (9, 183)) = some ((9, 183), J 1000000) := by decide +kernel
set_option maxRecDepth 100000 in
theorem gcs9_184 : gFind (gCS 9) 184 = some (0, 169) := by decide +kernel
set_option maxRecDepth 100000 in
theorem gcs9_187 : gFind (gCS 9) 187 = some (0, 168) := by decide +kernel
set_option maxRecDepth 100000 in
theorem gcs9_191 : gFind (gCS 9) 191 = some (0, 171) := by decide +kernel
set_option maxRecDepth 100000 in
theorem gcs9_194 : gFind (gCS 9) 194 = some (0, 172) := by decide +kernel
set_option maxRecDepth 100000 in
theorem gcs9_197 : gFind (gCS 9) 197 = some (0, 155) := by decide +kernel
set_option maxRecDepth 100000 in
theorem gcs9_200 : gFind (gCS 9) 200 = some (0, 179) := by decide +kernel
set_option maxRecDepth 100000 in
theorem gcs9_203 : gFind (gCS 9) 203 = some (0, 180) := by decide +kernel
set_option maxRecDepth 100000 in
theorem gcs9_206 : gFind (gCS 9) 206 = some (0, 181) := by decide +kernel
set_option maxRecDepth 100000 in
theorem gcs9_209 : gFind (gCS 9) 209 = some (1, 183) := by decide +kernel
set_option maxRecDepth 100000 in
theorem gkl9_212 : gKL.find? (fun q => q.1 == (9, 212)) = some ((9, 212), 7919) := by decide +kernel
set_option maxRecDepth 100000 in
theorem gkl9_214 : gKL.find? (fun q => q.1 == (9, 214)) = some ((9, 214), 6151) := by decide +kernel
set_option maxRecDepth 100000 in
theorem gkl9_216 : gKL.find? (fun q => q.1 == (9, 216)) = some ((9, 216), 65521) := by decide +kernel
set_option maxRecDepth 100000 in
theorem gcs9_218 : gFind (gCS 9) 218 = some (0, 186) := by decide +kernel
set_option maxRecDepth 100000 in
theorem gcs9_221 : gFind (gCS 9) 221 = some (0, 185) := by decide +kernel
set_option maxRecDepth 100000 in
theorem gcs9_224 : gFind (gCS 9) 224 = some (0, 190) := by decide +kernel
set_option maxRecDepth 100000 in
theorem gcs9_227 : gFind (gCS 9) 227 = some (0, 156) := by decide +kernel
set_option maxRecDepth 100000 in
theorem gk10_265 : gKS.find? (fun q => q.1 == (10, 265)) = some ((10, 265), J 1431655765) := by decide +kernel
set_option maxRecDepth 100000 in
theorem gk10_266 : gKS.find? (fun q => q.1 == (10, 266)) = some ((10, 266), J 858993459) := by decide +kernel
set_option maxRecDepth 100000 in
theorem gk10_267 : gKS.find? (fun q => q.1 == (10, 267)) = some ((10, 267), J 252645135) := by decide +kernel
set_option maxRecDepth 100000 in
theorem ltb_16 : (Int8.ofInt (16)).toInt32 = J (16) := by decide +kernel
set_option maxRecDepth 100000 in
theorem ltb_63 : (Int8.ofInt (63)).toInt32 = J (63) := by decide +kernel
set_option maxRecDepth 100000 in
theorem gns11_7 : gFind2 (gNS 11) 7 = some 8 := by decide +kernel
set_option maxRecDepth 100000 in
theorem gcs11_9 : gFind (gCS 11) 9 = some (5, 75) := by decide +kernel
set_option maxRecDepth 100000 in
theorem gns11_10 : gFind2 (gNS 11) 10 = some 9 := by decide +kernel
set_option maxRecDepth 100000 in
theorem gcs11_12 : gFind (gCS 11) 12 = some (3, 119) := by decide +kernel
set_option maxRecDepth 100000 in
theorem ltb_31 : (Int8.ofInt (31)).toInt32 = J (31) := by decide +kernel
set_option maxRecDepth 100000 in
theorem gcs11_13 : gFind (gCS 11) 13 = some (0, 76) := by decide +kernel
set_option maxRecDepth 100000 in
theorem gcs11_17 : gFind (gCS 11) 17 = some (0, 125) := by decide +kernel
set_option maxRecDepth 100000 in
theorem gcs11_18 : gFind (gCS 11) 18 = some (0, 77) := by decide +kernel
set_option maxRecDepth 100000 in
theorem gcs11_22 : gFind (gCS 11) 22 = some (0, 126) := by decide +kernel
set_option maxRecDepth 100000 in
theorem gcs11_23 : gFind (gCS 11) 23 = some (0, 78) := by decide +kernel
set_option maxRecDepth 100000 in
theorem gcs11_26 : gFind (gCS 11) 26 = some (0, 136) := by decide +kernel
set_option maxRecDepth 100000 in
theorem gcs11_27 : gFind (gCS 11) 27 = some (0, 79) := by decide +kernel
set_option maxRecDepth 100000 in
theorem gcs11_30 : gFind (gCS 11) 30 = some (0, 137) := by decide +kernel
set_option maxRecDepth 100000 in
theorem gcs11_31 : gFind (gCS 11) 31 = some (0, 80) := by decide +kernel
set_option maxRecDepth 100000 in
theorem gcs11_35 : gFind (gCS 11) 35 = some (0, 150) := by decide +kernel
set_option maxRecDepth 100000 in
theorem gcs11_36 : gFind (gCS 11) 36 = some (0, 81) := by decide +kernel
set_option maxRecDepth 100000 in
theorem gcs11_39 : gFind (gCS 11) 39 = some (0, 151) := by decide +kernel
set_option maxRecDepth 100000 in
theorem gcs11_40 : gFind (gCS 11) 40 = some (0, 82) := by decide +kernel
set_option maxRecDepth 100000 in
theorem gcs11_43 : gFind (gCS 11) 43 = some (0, 152) := by decide +kernel
set_option maxRecDepth 100000 in
theorem gcs11_44 : gFind (gCS 11) 44 = some (0, 83) := by decide +kernel
set_option maxRecDepth 100000 in
theorem gcs11_47 : gFind (gCS 11) 47 = some (0, 157) := by decide +kernel
set_option maxRecDepth 100000 in
theorem gcs11_48 : gFind (gCS 11) 48 = some (0, 84) := by decide +kernel
set_option maxRecDepth 100000 in
theorem gcs11_51 : gFind (gCS 11) 51 = some (0, 160) := by decide +kernel
set_option maxRecDepth 100000 in
theorem gcs11_52 : gFind (gCS 11) 52 = some (0, 85) := by decide +kernel
set_option maxRecDepth 100000 in
theorem gcs11_55 : gFind (gCS 11) 55 = some (0, 161) := by decide +kernel
set_option maxRecDepth 100000 in
theorem gcs11_56 : gFind (gCS 11) 56 = some (0, 86) := by decide +kernel
set_option maxRecDepth 100000 in
theorem gcs11_59 : gFind (gCS 11) 59 = some (0, 162) := by decide +kernel
set_option maxRecDepth 100000 in
theorem gcs11_60 : gFind (gCS 11) 60 = some (0, 87) := by decide +kernel
set_option maxRecDepth 100000 in
theorem gcs11_63 : gFind (gCS 11) 63 = some (0, 163) := by decide +kernel
set_option maxRecDepth 100000 in
theorem gcs11_64 : gFind (gCS 11) 64 = some (0, 88) := by decide +kernel
set_option maxRecDepth 100000 in
theorem gcs11_67 : gFind (gCS 11) 67 = some (0, 165) := by decide +kernel
set_option maxRecDepth 100000 in
theorem gcs11_68 : gFind (gCS 11) 68 = some (0, 89) := by decide +kernel
set_option maxRecDepth 100000 in
theorem gcs11_71 : gFind (gCS 11) 71 = some (0, 166) := by decide +kernel
set_option maxRecDepth 100000 in
theorem gcs11_72 : gFind (gCS 11) 72 = some (0, 90) := by decide +kernel
set_option maxRecDepth 100000 in
theorem gcs11_76 : gFind (gCS 11) 76 = some (0, 170) := by decide +kernel
set_option maxRecDepth 100000 in
theorem gcs11_77 : gFind (gCS 11) 77 = some (0, 91) := by decide +kernel
set_option maxRecDepth 100000 in
theorem gcs11_80 : gFind (gCS 11) 80 = some (0, 173) := by decide +kernel
set_option maxRecDepth 100000 in
theorem gcs11_81 : gFind (gCS 11) 81 = some (0, 92) := by decide +kernel
set_option maxRecDepth 100000 in
theorem gcs11_84 : gFind (gCS 11) 84 = some (0, 174) := by decide +kernel
set_option maxRecDepth 100000 in
theorem gcs11_85 : gFind (gCS 11) 85 = some (0, 93) := by decide +kernel
set_option maxRecDepth 100000 in
theorem gcs11_88 : gFind (gCS 11) 88 = some (0, 175) := by decide +kernel
set_option maxRecDepth 100000 in
theorem gcs11_89 : gFind (gCS 11) 89 = some (0, 94) := by decide +kernel
set_option maxRecDepth 100000 in
theorem gcs11_92 : gFind (gCS 11) 92 = some (0, 176) := by decide +kernel
set_option maxRecDepth 100000 in
theorem gcs11_93 : gFind (gCS 11) 93 = some (0, 95) := by decide +kernel
set_option maxRecDepth 100000 in
theorem gcs11_96 : gFind (gCS 11) 96 = some (0, 177) := by decide +kernel
set_option maxRecDepth 100000 in
theorem gcs11_97 : gFind (gCS 11) 97 = some (0, 96) := by decide +kernel
set_option maxRecDepth 100000 in
theorem gcs11_100 : gFind (gCS 11) 100 = some (0, 178) := by decide +kernel
set_option maxRecDepth 100000 in
theorem gcs11_101 : gFind (gCS 11) 101 = some (0, 97) := by decide +kernel
set_option maxRecDepth 100000 in
theorem gcs11_104 : gFind (gCS 11) 104 = some (0, 180) := by decide +kernel
set_option maxRecDepth 100000 in
theorem gcs11_105 : gFind (gCS 11) 105 = some (0, 98) := by decide +kernel
set_option maxRecDepth 100000 in
theorem gcs11_108 : gFind (gCS 11) 108 = some (0, 182) := by decide +kernel
set_option maxRecDepth 100000 in
theorem gcs11_109 : gFind (gCS 11) 109 = some (0, 99) := by decide +kernel
set_option maxRecDepth 100000 in
theorem gcs11_113 : gFind (gCS 11) 113 = some (0, 184) := by decide +kernel
set_option maxRecDepth 100000 in
theorem gcs11_114 : gFind (gCS 11) 114 = some (0, 100) := by decide +kernel
set_option maxRecDepth 100000 in
theorem gcs11_117 : gFind (gCS 11) 117 = some (0, 187) := by decide +kernel
set_option maxRecDepth 100000 in
theorem gcs11_118 : gFind (gCS 11) 118 = some (0, 101) := by decide +kernel
set_option maxRecDepth 100000 in
theorem gcs11_121 : gFind (gCS 11) 121 = some (0, 188) := by decide +kernel
set_option maxRecDepth 100000 in
theorem gcs11_122 : gFind (gCS 11) 122 = some (0, 102) := by decide +kernel
set_option maxRecDepth 100000 in
theorem gcs11_125 : gFind (gCS 11) 125 = some (0, 189) := by decide +kernel
set_option maxRecDepth 100000 in
theorem gcs11_126 : gFind (gCS 11) 126 = some (0, 103) := by decide +kernel
set_option maxRecDepth 100000 in
theorem gcs11_129 : gFind (gCS 11) 129 = some (0, 191) := by decide +kernel
