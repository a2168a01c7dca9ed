/-! facts of methods and references, for the printed rows (wip/whole/genrows.py) -/
theorem jo0 : jow 0 = 0 := by decide +kernel
theorem jr0 : jrt 0 = (Option.none : Option FieldType) := by decide +kernel
theorem jm0 : jmx 0 = 1 := by decide +kernel
theorem jn0 : jna 0 = some 0 := by decide +kernel
theorem jo1 : jow 1 = 0 := by decide +kernel
theorem jr1 : jrt 1 = (Option.some FieldType.boolean) := by decide +kernel
theorem jm1 : jmx 1 = 5 := by decide +kernel
theorem jn1 : jna 1 = some 1 := by decide +kernel
theorem jo2 : jow 2 = 0 := by decide +kernel
theorem jr2 : jrt 2 = (Option.some FieldType.boolean) := by decide +kernel
theorem jm2 : jmx 2 = 2 := by decide +kernel
theorem jn2 : jna 2 = some 1 := by decide +kernel
theorem jo3 : jow 3 = 0 := by decide +kernel
theorem jr3 : jrt 3 = (Option.some FieldType.boolean) := by decide +kernel
theorem jm3 : jmx 3 = 3 := by decide +kernel
theorem jn3 : jna 3 = some 2 := by decide +kernel
theorem jo4 : jow 4 = 0 := by decide +kernel
theorem jr4 : jrt 4 = (Option.some FieldType.boolean) := by decide +kernel
theorem jm4 : jmx 4 = 5 := by decide +kernel
theorem jn4 : jna 4 = some 1 := by decide +kernel
theorem jo5 : jow 5 = 0 := by decide +kernel
theorem jr5 : jrt 5 = (Option.some FieldType.boolean) := by decide +kernel
theorem jm5 : jmx 5 = 2 := by decide +kernel
theorem jn5 : jna 5 = some 1 := by decide +kernel
theorem jo6 : jow 6 = 0 := by decide +kernel
theorem jr6 : jrt 6 = (Option.some FieldType.int) := by decide +kernel
theorem jm6 : jmx 6 = 2 := by decide +kernel
theorem jn6 : jna 6 = some 1 := by decide +kernel
theorem jo7 : jow 7 = 0 := by decide +kernel
theorem jr7 : jrt 7 = (Option.some FieldType.boolean) := by decide +kernel
theorem jm7 : jmx 7 = 3 := by decide +kernel
theorem jn7 : jna 7 = some 2 := by decide +kernel
theorem jo8 : jow 8 = 0 := by decide +kernel
theorem jr8 : jrt 8 = (Option.some FieldType.boolean) := by decide +kernel
theorem jm8 : jmx 8 = 2 := by decide +kernel
theorem jn8 : jna 8 = some 1 := by decide +kernel
theorem jo9 : jow 9 = 1 := by decide +kernel
theorem jr9 : jrt 9 = (Option.none : Option FieldType) := by decide +kernel
theorem jm9 : jmx 9 = 1 := by decide +kernel
theorem jn9 : jna 9 = some 0 := by decide +kernel
theorem jo10 : jow 10 = 1 := by decide +kernel
theorem jr10 : jrt 10 = (Option.none : Option FieldType) := by decide +kernel
theorem jm10 : jmx 10 = 4 := by decide +kernel
theorem jn10 : jna 10 = some 3 := by decide +kernel
theorem jo11 : jow 11 = 1 := by decide +kernel
theorem jr11 : jrt 11 = (Option.none : Option FieldType) := by decide +kernel
theorem jm11 : jmx 11 = 3 := by decide +kernel
theorem jn11 : jna 11 = some 2 := by decide +kernel
theorem jo12 : jow 12 = 1 := by decide +kernel
theorem jr12 : jrt 12 = (Option.some FieldType.int) := by decide +kernel
theorem jm12 : jmx 12 = 5 := by decide +kernel
theorem jn12 : jna 12 = some 0 := by decide +kernel
theorem jo13 : jow 13 = 1 := by decide +kernel
theorem jr13 : jrt 13 = (Option.some FieldType.int) := by decide +kernel
theorem jm13 : jmx 13 = 4 := by decide +kernel
theorem jn13 : jna 13 = some 1 := by decide +kernel
theorem jo14 : jow 14 = 1 := by decide +kernel
theorem jr14 : jrt 14 = (Option.some FieldType.boolean) := by decide +kernel
theorem jm14 : jmx 14 = 2 := by decide +kernel
theorem jn14 : jna 14 = some 1 := by decide +kernel
theorem jo15 : jow 15 = 1 := by decide +kernel
theorem jr15 : jrt 15 = (Option.some FieldType.int) := by decide +kernel
theorem jm15 : jmx 15 = 9 := by decide +kernel
theorem jn15 : jna 15 = some 2 := by decide +kernel
theorem jo16 : jow 16 = 1 := by decide +kernel
theorem jr16 : jrt 16 = (Option.none : Option FieldType) := by decide +kernel
theorem jm16 : jmx 16 = 3 := by decide +kernel
theorem jn16 : jna 16 = some 2 := by decide +kernel
theorem jo17 : jow 17 = 1 := by decide +kernel
theorem jr17 : jrt 17 = (Option.none : Option FieldType) := by decide +kernel
theorem jm17 : jmx 17 = 3 := by decide +kernel
theorem jn17 : jna 17 = some 2 := by decide +kernel
theorem jo18 : jow 18 = 1 := by decide +kernel
theorem jr18 : jrt 18 = (Option.none : Option FieldType) := by decide +kernel
theorem jm18 : jmx 18 = 3 := by decide +kernel
theorem jn18 : jna 18 = some 1 := by decide +kernel
theorem jo19 : jow 19 = 1 := by decide +kernel
theorem jr19 : jrt 19 = (Option.none : Option FieldType) := by decide +kernel
theorem jm19 : jmx 19 = 3 := by decide +kernel
theorem jn19 : jna 19 = some 2 := by decide +kernel
theorem jo20 : jow 20 = 2 := by decide +kernel
theorem jr20 : jrt 20 = (Option.none : Option FieldType) := by decide +kernel
theorem jm20 : jmx 20 = 1 := by decide +kernel
theorem jn20 : jna 20 = some 0 := by decide +kernel
theorem jo21 : jow 21 = 2 := by decide +kernel
theorem jr21 : jrt 21 = (Option.some FieldType.int) := by decide +kernel
theorem jm21 : jmx 21 = 4 := by decide +kernel
theorem jn21 : jna 21 = some 2 := by decide +kernel
theorem jo22 : jow 22 = 2 := by decide +kernel
theorem jr22 : jrt 22 = (Option.none : Option FieldType) := by decide +kernel
theorem jm22 : jmx 22 = 3 := by decide +kernel
theorem jn22 : jna 22 = some 2 := by decide +kernel
theorem jo23 : jow 23 = 2 := by decide +kernel
theorem jr23 : jrt 23 = (Option.some (FieldType.object "FailBadge$Standing")) := by decide +kernel
theorem jm23 : jmx 23 = 4 := by decide +kernel
theorem jn23 : jna 23 = some 3 := by decide +kernel
theorem jo24 : jow 24 = 2 := by decide +kernel
theorem jr24 : jrt 24 = (Option.some FieldType.int) := by decide +kernel
theorem jm24 : jmx 24 = 6 := by decide +kernel
theorem jn24 : jna 24 = some 3 := by decide +kernel
theorem jo25 : jow 25 = 2 := by decide +kernel
theorem jr25 : jrt 25 = (Option.some FieldType.int) := by decide +kernel
theorem jm25 : jmx 25 = 6 := by decide +kernel
theorem jn25 : jna 25 = some 3 := by decide +kernel
theorem jo26 : jow 26 = 2 := by decide +kernel
theorem jr26 : jrt 26 = (Option.some FieldType.int) := by decide +kernel
theorem jm26 : jmx 26 = 7 := by decide +kernel
theorem jn26 : jna 26 = some 3 := by decide +kernel
theorem jo27 : jow 27 = 2 := by decide +kernel
theorem jr27 : jrt 27 = (Option.some FieldType.int) := by decide +kernel
theorem jm27 : jmx 27 = 7 := by decide +kernel
theorem jn27 : jna 27 = some 3 := by decide +kernel
theorem jo28 : jow 28 = 2 := by decide +kernel
theorem jr28 : jrt 28 = (Option.some FieldType.boolean) := by decide +kernel
theorem jm28 : jmx 28 = 6 := by decide +kernel
theorem jn28 : jna 28 = some 4 := by decide +kernel
theorem jo29 : jow 29 = 2 := by decide +kernel
theorem jr29 : jrt 29 = (Option.some FieldType.int) := by decide +kernel
theorem jm29 : jmx 29 = 6 := by decide +kernel
theorem jn29 : jna 29 = some 3 := by decide +kernel
theorem jo30 : jow 30 = 2 := by decide +kernel
theorem jr30 : jrt 30 = (Option.none : Option FieldType) := by decide +kernel
theorem jm30 : jmx 30 = 6 := by decide +kernel
theorem jn30 : jna 30 = some 1 := by decide +kernel
theorem jo31 : jow 31 = 2 := by decide +kernel
theorem jr31 : jrt 31 = (Option.some FieldType.boolean) := by decide +kernel
theorem jm31 : jmx 31 = 4 := by decide +kernel
theorem jn31 : jna 31 = some 2 := by decide +kernel
theorem jo32 : jow 32 = 2 := by decide +kernel
theorem jr32 : jrt 32 = (Option.none : Option FieldType) := by decide +kernel
theorem jm32 : jmx 32 = 10 := by decide +kernel
theorem jn32 : jna 32 = some 5 := by decide +kernel
theorem jo33 : jow 33 = 2 := by decide +kernel
theorem jr33 : jrt 33 = (Option.some FieldType.long) := by decide +kernel
theorem jm33 : jmx 33 = 2 := by decide +kernel
theorem jn33 : jna 33 = some 1 := by decide +kernel
theorem jo34 : jow 34 = 2 := by decide +kernel
theorem jr34 : jrt 34 = (Option.some FieldType.int) := by decide +kernel
theorem jm34 : jmx 34 = 2 := by decide +kernel
theorem jn34 : jna 34 = some 1 := by decide +kernel
theorem jo35 : jow 35 = 2 := by decide +kernel
theorem jr35 : jrt 35 = (Option.some FieldType.int) := by decide +kernel
theorem jm35 : jmx 35 = 7 := by decide +kernel
theorem jn35 : jna 35 = some 3 := by decide +kernel
theorem jo36 : jow 36 = 2 := by decide +kernel
theorem jr36 : jrt 36 = (Option.some FieldType.boolean) := by decide +kernel
theorem jm36 : jmx 36 = 6 := by decide +kernel
theorem jn36 : jna 36 = some 3 := by decide +kernel
theorem jo37 : jow 37 = 2 := by decide +kernel
theorem jr37 : jrt 37 = (Option.some FieldType.int) := by decide +kernel
theorem jm37 : jmx 37 = 10 := by decide +kernel
theorem jn37 : jna 37 = some 4 := by decide +kernel
theorem jo38 : jow 38 = 2 := by decide +kernel
theorem jr38 : jrt 38 = (Option.some FieldType.int) := by decide +kernel
theorem jm38 : jmx 38 = 7 := by decide +kernel
theorem jn38 : jna 38 = some 2 := by decide +kernel
theorem jo39 : jow 39 = 3 := by decide +kernel
theorem jr39 : jrt 39 = (Option.none : Option FieldType) := by decide +kernel
theorem jm39 : jmx 39 = 1 := by decide +kernel
theorem jn39 : jna 39 = some 0 := by decide +kernel
theorem jo40 : jow 40 = 3 := by decide +kernel
theorem jr40 : jrt 40 = (Option.none : Option FieldType) := by decide +kernel
theorem jm40 : jmx 40 = 2 := by decide +kernel
theorem jn40 : jna 40 = some 1 := by decide +kernel
theorem jo41 : jow 41 = 4 := by decide +kernel
theorem jr41 : jrt 41 = (Option.none : Option FieldType) := by decide +kernel
theorem jm41 : jmx 41 = 1 := by decide +kernel
theorem jn41 : jna 41 = some 0 := by decide +kernel
theorem jo42 : jow 42 = 4 := by decide +kernel
theorem jr42 : jrt 42 = (Option.some FieldType.boolean) := by decide +kernel
theorem jm42 : jmx 42 = 1 := by decide +kernel
theorem jn42 : jna 42 = some 0 := by decide +kernel
theorem jo43 : jow 43 = 4 := by decide +kernel
theorem jr43 : jrt 43 = (Option.none : Option FieldType) := by decide +kernel
theorem jm43 : jmx 43 = 5 := by decide +kernel
theorem jn43 : jna 43 = some 4 := by decide +kernel
theorem jo44 : jow 44 = 4 := by decide +kernel
theorem jr44 : jrt 44 = (Option.some FieldType.int) := by decide +kernel
theorem jm44 : jmx 44 = 3 := by decide +kernel
theorem jn44 : jna 44 = some 0 := by decide +kernel
theorem jo45 : jow 45 = 4 := by decide +kernel
theorem jr45 : jrt 45 = (Option.some FieldType.boolean) := by decide +kernel
theorem jm45 : jmx 45 = 4 := by decide +kernel
theorem jn45 : jna 45 = some 2 := by decide +kernel
theorem jo46 : jow 46 = 4 := by decide +kernel
theorem jr46 : jrt 46 = (Option.none : Option FieldType) := by decide +kernel
theorem jm46 : jmx 46 = 2 := by decide +kernel
theorem jn46 : jna 46 = some 1 := by decide +kernel
theorem jo47 : jow 47 = 5 := by decide +kernel
theorem jr47 : jrt 47 = (Option.none : Option FieldType) := by decide +kernel
theorem jm47 : jmx 47 = 1 := by decide +kernel
theorem jn47 : jna 47 = some 0 := by decide +kernel
theorem jo48 : jow 48 = 5 := by decide +kernel
theorem jr48 : jrt 48 = (Option.none : Option FieldType) := by decide +kernel
theorem jm48 : jmx 48 = 2 := by decide +kernel
theorem jn48 : jna 48 = some 1 := by decide +kernel
theorem jo49 : jow 49 = 5 := by decide +kernel
theorem jr49 : jrt 49 = (Option.none : Option FieldType) := by decide +kernel
theorem jm49 : jmx 49 = 2 := by decide +kernel
theorem jn49 : jna 49 = some 1 := by decide +kernel
theorem jo50 : jow 50 = 6 := by decide +kernel
theorem jr50 : jrt 50 = (Option.none : Option FieldType) := by decide +kernel
theorem jm50 : jmx 50 = 1 := by decide +kernel
theorem jn50 : jna 50 = some 0 := by decide +kernel
theorem jo51 : jow 51 = 6 := by decide +kernel
theorem jr51 : jrt 51 = (Option.some FieldType.int) := by decide +kernel
theorem jm51 : jmx 51 = 6 := by decide +kernel
theorem jn51 : jna 51 = some 1 := by decide +kernel
theorem jo52 : jow 52 = 6 := by decide +kernel
theorem jr52 : jrt 52 = (Option.none : Option FieldType) := by decide +kernel
theorem jm52 : jmx 52 = 3 := by decide +kernel
theorem jn52 : jna 52 = some 1 := by decide +kernel
theorem jo53 : jow 53 = 6 := by decide +kernel
theorem jr53 : jrt 53 = (Option.some FieldType.int) := by decide +kernel
theorem jm53 : jmx 53 = 4 := by decide +kernel
theorem jn53 : jna 53 = some 1 := by decide +kernel
theorem jo54 : jow 54 = 6 := by decide +kernel
theorem jr54 : jrt 54 = (Option.some FieldType.int) := by decide +kernel
theorem jm54 : jmx 54 = 2 := by decide +kernel
theorem jn54 : jna 54 = some 1 := by decide +kernel
theorem jo55 : jow 55 = 6 := by decide +kernel
theorem jr55 : jrt 55 = (Option.none : Option FieldType) := by decide +kernel
theorem jm55 : jmx 55 = 5 := by decide +kernel
theorem jn55 : jna 55 = some 1 := by decide +kernel
theorem jo56 : jow 56 = 6 := by decide +kernel
theorem jr56 : jrt 56 = (Option.some FieldType.int) := by decide +kernel
theorem jm56 : jmx 56 = 7 := by decide +kernel
theorem jn56 : jna 56 = some 2 := by decide +kernel
theorem jo57 : jow 57 = 6 := by decide +kernel
theorem jr57 : jrt 57 = (Option.some FieldType.int) := by decide +kernel
theorem jm57 : jmx 57 = 6 := by decide +kernel
theorem jn57 : jna 57 = some 2 := by decide +kernel
theorem jo58 : jow 58 = 6 := by decide +kernel
theorem jr58 : jrt 58 = (Option.some FieldType.int) := by decide +kernel
theorem jm58 : jmx 58 = 7 := by decide +kernel
theorem jn58 : jna 58 = some 2 := by decide +kernel
theorem jo59 : jow 59 = 6 := by decide +kernel
theorem jr59 : jrt 59 = (Option.some FieldType.int) := by decide +kernel
theorem jm59 : jmx 59 = 4 := by decide +kernel
theorem jn59 : jna 59 = some 1 := by decide +kernel
theorem jo60 : jow 60 = 6 := by decide +kernel
theorem jr60 : jrt 60 = (Option.some FieldType.boolean) := by decide +kernel
theorem jm60 : jmx 60 = 5 := by decide +kernel
theorem jn60 : jna 60 = some 3 := by decide +kernel
theorem jo61 : jow 61 = 6 := by decide +kernel
theorem jr61 : jrt 61 = (Option.some FieldType.int) := by decide +kernel
theorem jm61 : jmx 61 = 10 := by decide +kernel
theorem jn61 : jna 61 = some 3 := by decide +kernel
theorem jo62 : jow 62 = 6 := by decide +kernel
theorem jr62 : jrt 62 = (Option.some FieldType.int) := by decide +kernel
theorem jm62 : jmx 62 = 7 := by decide +kernel
theorem jn62 : jna 62 = some 3 := by decide +kernel
theorem jo63 : jow 63 = 6 := by decide +kernel
theorem jr63 : jrt 63 = (Option.some FieldType.int) := by decide +kernel
theorem jm63 : jmx 63 = 11 := by decide +kernel
theorem jn63 : jna 63 = some 4 := by decide +kernel
theorem jo64 : jow 64 = 6 := by decide +kernel
theorem jr64 : jrt 64 = (Option.some FieldType.int) := by decide +kernel
theorem jm64 : jmx 64 = 9 := by decide +kernel
theorem jn64 : jna 64 = some 4 := by decide +kernel
theorem jo65 : jow 65 = 6 := by decide +kernel
theorem jr65 : jrt 65 = (Option.some FieldType.int) := by decide +kernel
theorem jm65 : jmx 65 = 8 := by decide +kernel
theorem jn65 : jna 65 = some 3 := by decide +kernel
theorem jo66 : jow 66 = 6 := by decide +kernel
theorem jr66 : jrt 66 = (Option.some FieldType.int) := by decide +kernel
theorem jm66 : jmx 66 = 8 := by decide +kernel
theorem jn66 : jna 66 = some 4 := by decide +kernel
theorem jo67 : jow 67 = 7 := by decide +kernel
theorem jr67 : jrt 67 = (Option.none : Option FieldType) := by decide +kernel
theorem jm67 : jmx 67 = 5 := by decide +kernel
theorem jn67 : jna 67 = some 4 := by decide +kernel
theorem jo68 : jow 68 = 7 := by decide +kernel
theorem jr68 : jrt 68 = (Option.some FieldType.long) := by decide +kernel
theorem jm68 : jmx 68 = 6 := by decide +kernel
theorem jn68 : jna 68 = some 2 := by decide +kernel
theorem jo69 : jow 69 = 7 := by decide +kernel
theorem jr69 : jrt 69 = (Option.some FieldType.long) := by decide +kernel
theorem jm69 : jmx 69 = 8 := by decide +kernel
theorem jn69 : jna 69 = some 4 := by decide +kernel
theorem jo70 : jow 70 = 7 := by decide +kernel
theorem jr70 : jrt 70 = (Option.some FieldType.long) := by decide +kernel
theorem jm70 : jmx 70 = 5 := by decide +kernel
theorem jn70 : jna 70 = some 3 := by decide +kernel
theorem jo71 : jow 71 = 8 := by decide +kernel
theorem jr71 : jrt 71 = (Option.none : Option FieldType) := by decide +kernel
theorem jm71 : jmx 71 = 1 := by decide +kernel
theorem jn71 : jna 71 = some 0 := by decide +kernel
theorem jo72 : jow 72 = 8 := by decide +kernel
theorem jr72 : jrt 72 = (Option.some FieldType.boolean) := by decide +kernel
theorem jm72 : jmx 72 = 3 := by decide +kernel
theorem jn72 : jna 72 = some 1 := by decide +kernel
theorem jo73 : jow 73 = 8 := by decide +kernel
theorem jr73 : jrt 73 = (Option.some FieldType.boolean) := by decide +kernel
theorem jm73 : jmx 73 = 6 := by decide +kernel
theorem jn73 : jna 73 = some 1 := by decide +kernel
theorem jo74 : jow 74 = 8 := by decide +kernel
theorem jr74 : jrt 74 = (Option.some FieldType.boolean) := by decide +kernel
theorem jm74 : jmx 74 = 3 := by decide +kernel
theorem jn74 : jna 74 = some 1 := by decide +kernel
theorem jo75 : jow 75 = 8 := by decide +kernel
theorem jr75 : jrt 75 = (Option.none : Option FieldType) := by decide +kernel
theorem jm75 : jmx 75 = 2 := by decide +kernel
theorem jn75 : jna 75 = some 1 := by decide +kernel
theorem jo76 : jow 76 = 8 := by decide +kernel
theorem jr76 : jrt 76 = (Option.some FieldType.int) := by decide +kernel
theorem jm76 : jmx 76 = 1 := by decide +kernel
theorem jn76 : jna 76 = some 1 := by decide +kernel
theorem jo77 : jow 77 = 8 := by decide +kernel
theorem jr77 : jrt 77 = (Option.some FieldType.boolean) := by decide +kernel
theorem jm77 : jmx 77 = 7 := by decide +kernel
theorem jn77 : jna 77 = some 2 := by decide +kernel
theorem jo78 : jow 78 = 8 := by decide +kernel
theorem jr78 : jrt 78 = (Option.some FieldType.boolean) := by decide +kernel
theorem jm78 : jmx 78 = 5 := by decide +kernel
theorem jn78 : jna 78 = some 2 := by decide +kernel
theorem jo79 : jow 79 = 8 := by decide +kernel
theorem jr79 : jrt 79 = (Option.some FieldType.boolean) := by decide +kernel
theorem jm79 : jmx 79 = 4 := by decide +kernel
theorem jn79 : jna 79 = some 1 := by decide +kernel
theorem jo80 : jow 80 = 8 := by decide +kernel
theorem jr80 : jrt 80 = (Option.some (FieldType.object "FailBadge$Rule")) := by decide +kernel
theorem jm80 : jmx 80 = 1 := by decide +kernel
theorem jn80 : jna 80 = some 0 := by decide +kernel
theorem jo81 : jow 81 = 9 := by decide +kernel
theorem jr81 : jrt 81 = (Option.none : Option FieldType) := by decide +kernel
theorem jm81 : jmx 81 = 1 := by decide +kernel
theorem jn81 : jna 81 = some 0 := by decide +kernel
theorem jo82 : jow 82 = 9 := by decide +kernel
theorem jr82 : jrt 82 = (Option.none : Option FieldType) := by decide +kernel
theorem jm82 : jmx 82 = 2 := by decide +kernel
theorem jn82 : jna 82 = some 1 := by decide +kernel
theorem jo83 : jow 83 = 9 := by decide +kernel
theorem jr83 : jrt 83 = (Option.some FieldType.int) := by decide +kernel
theorem jm83 : jmx 83 = 6 := by decide +kernel
theorem jn83 : jna 83 = some 2 := by decide +kernel
theorem jo84 : jow 84 = 9 := by decide +kernel
theorem jr84 : jrt 84 = (Option.some FieldType.int) := by decide +kernel
theorem jm84 : jmx 84 = 3 := by decide +kernel
theorem jn84 : jna 84 = some 2 := by decide +kernel
theorem jo85 : jow 85 = 9 := by decide +kernel
theorem jr85 : jrt 85 = (Option.some FieldType.int) := by decide +kernel
theorem jm85 : jmx 85 = 3 := by decide +kernel
theorem jn85 : jna 85 = some 0 := by decide +kernel
theorem jo86 : jow 86 = 9 := by decide +kernel
theorem jr86 : jrt 86 = (Option.some FieldType.int) := by decide +kernel
theorem jm86 : jmx 86 = 2 := by decide +kernel
theorem jn86 : jna 86 = some 1 := by decide +kernel
theorem jo87 : jow 87 = 9 := by decide +kernel
theorem jr87 : jrt 87 = (Option.some FieldType.int) := by decide +kernel
theorem jm87 : jmx 87 = 3 := by decide +kernel
theorem jn87 : jna 87 = some 0 := by decide +kernel
theorem jo88 : jow 88 = 9 := by decide +kernel
theorem jr88 : jrt 88 = (Option.none : Option FieldType) := by decide +kernel
theorem jm88 : jmx 88 = 2 := by decide +kernel
theorem jn88 : jna 88 = some 1 := by decide +kernel
theorem jo89 : jow 89 = 9 := by decide +kernel
theorem jr89 : jrt 89 = (Option.some FieldType.boolean) := by decide +kernel
theorem jm89 : jmx 89 = 3 := by decide +kernel
theorem jn89 : jna 89 = some 2 := by decide +kernel
theorem jo90 : jow 90 = 9 := by decide +kernel
theorem jr90 : jrt 90 = (Option.some FieldType.int) := by decide +kernel
theorem jm90 : jmx 90 = 5 := by decide +kernel
theorem jn90 : jna 90 = some 2 := by decide +kernel
theorem jo91 : jow 91 = 9 := by decide +kernel
theorem jr91 : jrt 91 = (Option.some FieldType.boolean) := by decide +kernel
theorem jm91 : jmx 91 = 6 := by decide +kernel
theorem jn91 : jna 91 = some 5 := by decide +kernel
theorem jo92 : jow 92 = 9 := by decide +kernel
theorem jr92 : jrt 92 = (Option.none : Option FieldType) := by decide +kernel
theorem jm92 : jmx 92 = 5 := by decide +kernel
theorem jn92 : jna 92 = some 3 := by decide +kernel
theorem jo93 : jow 93 = 9 := by decide +kernel
theorem jr93 : jrt 93 = (Option.some FieldType.int) := by decide +kernel
theorem jm93 : jmx 93 = 4 := by decide +kernel
theorem jn93 : jna 93 = some 1 := by decide +kernel
theorem jo94 : jow 94 = 9 := by decide +kernel
theorem jr94 : jrt 94 = (Option.none : Option FieldType) := by decide +kernel
theorem jm94 : jmx 94 = 4 := by decide +kernel
theorem jn94 : jna 94 = some 2 := by decide +kernel
theorem jo95 : jow 95 = 10 := by decide +kernel
theorem jr95 : jrt 95 = (Option.none : Option FieldType) := by decide +kernel
theorem jm95 : jmx 95 = 1 := by decide +kernel
theorem jn95 : jna 95 = some 0 := by decide +kernel
theorem jo96 : jow 96 = 10 := by decide +kernel
theorem jr96 : jrt 96 = (Option.some FieldType.boolean) := by decide +kernel
theorem jm96 : jmx 96 = 2 := by decide +kernel
theorem jn96 : jna 96 = some 1 := by decide +kernel
theorem jo97 : jow 97 = 10 := by decide +kernel
theorem jr97 : jrt 97 = (Option.none : Option FieldType) := by decide +kernel
theorem jm97 : jmx 97 = 3 := by decide +kernel
theorem jn97 : jna 97 = some 1 := by decide +kernel
theorem jo98 : jow 98 = 10 := by decide +kernel
theorem jr98 : jrt 98 = (Option.none : Option FieldType) := by decide +kernel
theorem jm98 : jmx 98 = 1 := by decide +kernel
theorem jn98 : jna 98 = some 0 := by decide +kernel
theorem jo99 : jow 99 = 10 := by decide +kernel
theorem jr99 : jrt 99 = (Option.none : Option FieldType) := by decide +kernel
theorem jm99 : jmx 99 = 2 := by decide +kernel
theorem jn99 : jna 99 = some 0 := by decide +kernel
theorem jo100 : jow 100 = 10 := by decide +kernel
theorem jr100 : jrt 100 = (Option.some FieldType.int) := by decide +kernel
theorem jm100 : jmx 100 = 7 := by decide +kernel
theorem jn100 : jna 100 = some 1 := by decide +kernel
theorem jo101 : jow 101 = 10 := by decide +kernel
theorem jr101 : jrt 101 = (Option.some FieldType.boolean) := by decide +kernel
theorem jm101 : jmx 101 = 2 := by decide +kernel
theorem jn101 : jna 101 = some 1 := by decide +kernel
theorem jo102 : jow 102 = 10 := by decide +kernel
theorem jr102 : jrt 102 = (Option.some FieldType.int) := by decide +kernel
theorem jm102 : jmx 102 = 3 := by decide +kernel
theorem jn102 : jna 102 = some 1 := by decide +kernel
theorem jo103 : jow 103 = 11 := by decide +kernel
theorem jr103 : jrt 103 = (Option.none : Option FieldType) := by decide +kernel
theorem jm103 : jmx 103 = 1 := by decide +kernel
theorem jn103 : jna 103 = some 0 := by decide +kernel
theorem jo104 : jow 104 = 11 := by decide +kernel
theorem jr104 : jrt 104 = (Option.some FieldType.int) := by decide +kernel
theorem jm104 : jmx 104 = 6 := by decide +kernel
theorem jn104 : jna 104 = some 5 := by decide +kernel
theorem jo105 : jow 105 = 11 := by decide +kernel
theorem jr105 : jrt 105 = (Option.some FieldType.int) := by decide +kernel
theorem jm105 : jmx 105 = 2 := by decide +kernel
theorem jn105 : jna 105 = some 1 := by decide +kernel
theorem jo106 : jow 106 = 11 := by decide +kernel
theorem jr106 : jrt 106 = (Option.some FieldType.int) := by decide +kernel
theorem jm106 : jmx 106 = 3 := by decide +kernel
theorem jn106 : jna 106 = some 0 := by decide +kernel
theorem jo107 : jow 107 = 11 := by decide +kernel
theorem jr107 : jrt 107 = (Option.some FieldType.int) := by decide +kernel
theorem jm107 : jmx 107 = 2 := by decide +kernel
theorem jn107 : jna 107 = some 0 := by decide +kernel
theorem jo108 : jow 108 = 11 := by decide +kernel
theorem jr108 : jrt 108 = (Option.some FieldType.int) := by decide +kernel
theorem jm108 : jmx 108 = 3 := by decide +kernel
theorem jn108 : jna 108 = some 1 := by decide +kernel
theorem jo109 : jow 109 = 11 := by decide +kernel
theorem jr109 : jrt 109 = (Option.some FieldType.int) := by decide +kernel
theorem jm109 : jmx 109 = 4 := by decide +kernel
theorem jn109 : jna 109 = some 2 := by decide +kernel
theorem jo110 : jow 110 = 11 := by decide +kernel
theorem jr110 : jrt 110 = (Option.some FieldType.int) := by decide +kernel
theorem jm110 : jmx 110 = 3 := by decide +kernel
theorem jn110 : jna 110 = some 2 := by decide +kernel
theorem jo111 : jow 111 = 11 := by decide +kernel
theorem jr111 : jrt 111 = (Option.some FieldType.int) := by decide +kernel
theorem jm111 : jmx 111 = 2 := by decide +kernel
theorem jn111 : jna 111 = some 1 := by decide +kernel
theorem jo112 : jow 112 = 11 := by decide +kernel
theorem jr112 : jrt 112 = (Option.some FieldType.int) := by decide +kernel
theorem jm112 : jmx 112 = 2 := by decide +kernel
theorem jn112 : jna 112 = some 1 := by decide +kernel
theorem jo113 : jow 113 = 11 := by decide +kernel
theorem jr113 : jrt 113 = (Option.some FieldType.int) := by decide +kernel
theorem jm113 : jmx 113 = 1 := by decide +kernel
theorem jn113 : jna 113 = some 0 := by decide +kernel
theorem jo114 : jow 114 = 11 := by decide +kernel
theorem jr114 : jrt 114 = (Option.some (FieldType.object "FailBadge$Rule")) := by decide +kernel
theorem jm114 : jmx 114 = 1 := by decide +kernel
theorem jn114 : jna 114 = some 0 := by decide +kernel
theorem jo115 : jow 115 = 11 := by decide +kernel
theorem jr115 : jrt 115 = (Option.some FieldType.boolean) := by decide +kernel
theorem jm115 : jmx 115 = 3 := by decide +kernel
theorem jn115 : jna 115 = some 3 := by decide +kernel
theorem jo116 : jow 116 = 11 := by decide +kernel
theorem jr116 : jrt 116 = (Option.some FieldType.int) := by decide +kernel
theorem jm116 : jmx 116 = 4 := by decide +kernel
theorem jn116 : jna 116 = some 2 := by decide +kernel
theorem jo117 : jow 117 = 11 := by decide +kernel
theorem jr117 : jrt 117 = (Option.some FieldType.int) := by decide +kernel
theorem jm117 : jmx 117 = 4 := by decide +kernel
theorem jn117 : jna 117 = some 2 := by decide +kernel
theorem jo118 : jow 118 = 11 := by decide +kernel
theorem jr118 : jrt 118 = (Option.some FieldType.int) := by decide +kernel
theorem jm118 : jmx 118 = 4 := by decide +kernel
theorem jn118 : jna 118 = some 3 := by decide +kernel
theorem jo119 : jow 119 = 11 := by decide +kernel
theorem jr119 : jrt 119 = (Option.some FieldType.int) := by decide +kernel
theorem jm119 : jmx 119 = 3 := by decide +kernel
theorem jn119 : jna 119 = some 2 := by decide +kernel
theorem jo120 : jow 120 = 11 := by decide +kernel
theorem jr120 : jrt 120 = (Option.some FieldType.int) := by decide +kernel
theorem jm120 : jmx 120 = 1 := by decide +kernel
theorem jn120 : jna 120 = some 0 := by decide +kernel
theorem jo121 : jow 121 = 11 := by decide +kernel
theorem jr121 : jrt 121 = (Option.some FieldType.int) := by decide +kernel
theorem jm121 : jmx 121 = 5 := by decide +kernel
theorem jn121 : jna 121 = some 3 := by decide +kernel
theorem jo122 : jow 122 = 11 := by decide +kernel
theorem jr122 : jrt 122 = (Option.some FieldType.int) := by decide +kernel
theorem jm122 : jmx 122 = 2 := by decide +kernel
theorem jn122 : jna 122 = some 1 := by decide +kernel
theorem jo123 : jow 123 = 11 := by decide +kernel
theorem jr123 : jrt 123 = (Option.some FieldType.int) := by decide +kernel
theorem jm123 : jmx 123 = 2 := by decide +kernel
theorem jn123 : jna 123 = some 1 := by decide +kernel
theorem jo124 : jow 124 = 11 := by decide +kernel
theorem jr124 : jrt 124 = (Option.some FieldType.int) := by decide +kernel
theorem jm124 : jmx 124 = 2 := by decide +kernel
theorem jn124 : jna 124 = some 1 := by decide +kernel
theorem jo125 : jow 125 = 11 := by decide +kernel
theorem jr125 : jrt 125 = (Option.some FieldType.int) := by decide +kernel
theorem jm125 : jmx 125 = 4 := by decide +kernel
theorem jn125 : jna 125 = some 2 := by decide +kernel
theorem jo126 : jow 126 = 11 := by decide +kernel
theorem jr126 : jrt 126 = (Option.some FieldType.int) := by decide +kernel
theorem jm126 : jmx 126 = 2 := by decide +kernel
theorem jn126 : jna 126 = some 1 := by decide +kernel
theorem jo127 : jow 127 = 11 := by decide +kernel
theorem jr127 : jrt 127 = (Option.some FieldType.int) := by decide +kernel
theorem jm127 : jmx 127 = 5 := by decide +kernel
theorem jn127 : jna 127 = some 4 := by decide +kernel
theorem jo128 : jow 128 = 11 := by decide +kernel
theorem jr128 : jrt 128 = (Option.some FieldType.int) := by decide +kernel
theorem jm128 : jmx 128 = 3 := by decide +kernel
theorem jn128 : jna 128 = some 1 := by decide +kernel
theorem jo129 : jow 129 = 11 := by decide +kernel
theorem jr129 : jrt 129 = (Option.some FieldType.int) := by decide +kernel
theorem jm129 : jmx 129 = 2 := by decide +kernel
theorem jn129 : jna 129 = some 1 := by decide +kernel
theorem jo130 : jow 130 = 11 := by decide +kernel
theorem jr130 : jrt 130 = (Option.some FieldType.int) := by decide +kernel
theorem jm130 : jmx 130 = 1 := by decide +kernel
theorem jn130 : jna 130 = some 0 := by decide +kernel
theorem jo131 : jow 131 = 11 := by decide +kernel
theorem jr131 : jrt 131 = (Option.some FieldType.int) := by decide +kernel
theorem jm131 : jmx 131 = 3 := by decide +kernel
theorem jn131 : jna 131 = some 2 := by decide +kernel
theorem jo132 : jow 132 = 11 := by decide +kernel
theorem jr132 : jrt 132 = (Option.some FieldType.int) := by decide +kernel
theorem jm132 : jmx 132 = 3 := by decide +kernel
theorem jn132 : jna 132 = some 2 := by decide +kernel
theorem jo133 : jow 133 = 11 := by decide +kernel
theorem jr133 : jrt 133 = (Option.some FieldType.int) := by decide +kernel
theorem jm133 : jmx 133 = 4 := by decide +kernel
theorem jn133 : jna 133 = some 3 := by decide +kernel
theorem jo134 : jow 134 = 11 := by decide +kernel
theorem jr134 : jrt 134 = (Option.some FieldType.int) := by decide +kernel
theorem jm134 : jmx 134 = 8 := by decide +kernel
theorem jn134 : jna 134 = some 4 := by decide +kernel
theorem jo135 : jow 135 = 11 := by decide +kernel
theorem jr135 : jrt 135 = (Option.some FieldType.int) := by decide +kernel
theorem jm135 : jmx 135 = 5 := by decide +kernel
theorem jn135 : jna 135 = some 4 := by decide +kernel
theorem jo136 : jow 136 = 11 := by decide +kernel
theorem jr136 : jrt 136 = (Option.some FieldType.int) := by decide +kernel
theorem jm136 : jmx 136 = 2 := by decide +kernel
theorem jn136 : jna 136 = some 1 := by decide +kernel
theorem jo137 : jow 137 = 11 := by decide +kernel
theorem jr137 : jrt 137 = (Option.some FieldType.int) := by decide +kernel
theorem jm137 : jmx 137 = 3 := by decide +kernel
theorem jn137 : jna 137 = some 2 := by decide +kernel
theorem jo138 : jow 138 = 11 := by decide +kernel
theorem jr138 : jrt 138 = (Option.some FieldType.int) := by decide +kernel
theorem jm138 : jmx 138 = 3 := by decide +kernel
theorem jn138 : jna 138 = some 1 := by decide +kernel
theorem jo139 : jow 139 = 11 := by decide +kernel
theorem jr139 : jrt 139 = (Option.some FieldType.int) := by decide +kernel
theorem jm139 : jmx 139 = 2 := by decide +kernel
theorem jn139 : jna 139 = some 1 := by decide +kernel
theorem jo140 : jow 140 = 11 := by decide +kernel
theorem jr140 : jrt 140 = (Option.some FieldType.int) := by decide +kernel
theorem jm140 : jmx 140 = 2 := by decide +kernel
theorem jn140 : jna 140 = some 1 := by decide +kernel
theorem jo141 : jow 141 = 12 := by decide +kernel
theorem jr141 : jrt 141 = (Option.none : Option FieldType) := by decide +kernel
theorem jm141 : jmx 141 = 1 := by decide +kernel
theorem jn141 : jna 141 = some 0 := by decide +kernel
theorem jo142 : jow 142 = 12 := by decide +kernel
theorem jr142 : jrt 142 = (Option.some FieldType.int) := by decide +kernel
theorem jm142 : jmx 142 = 6 := by decide +kernel
theorem jn142 : jna 142 = some 5 := by decide +kernel
theorem jo143 : jow 143 = 12 := by decide +kernel
theorem jr143 : jrt 143 = (Option.none : Option FieldType) := by decide +kernel
theorem jm143 : jmx 143 = 3 := by decide +kernel
theorem jn143 : jna 143 = some 1 := by decide +kernel
theorem jo144 : jow 144 = 12 := by decide +kernel
theorem jr144 : jrt 144 = (Option.some FieldType.int) := by decide +kernel
theorem jm144 : jmx 144 = 2 := by decide +kernel
theorem jn144 : jna 144 = some 1 := by decide +kernel
theorem jo145 : jow 145 = 12 := by decide +kernel
theorem jr145 : jrt 145 = (Option.some FieldType.int) := by decide +kernel
theorem jm145 : jmx 145 = 1 := by decide +kernel
theorem jn145 : jna 145 = some 0 := by decide +kernel
theorem jo146 : jow 146 = 12 := by decide +kernel
theorem jr146 : jrt 146 = (Option.some FieldType.boolean) := by decide +kernel
theorem jm146 : jmx 146 = 2 := by decide +kernel
theorem jn146 : jna 146 = some 0 := by decide +kernel
theorem jo147 : jow 147 = 12 := by decide +kernel
theorem jr147 : jrt 147 = (Option.some FieldType.boolean) := by decide +kernel
theorem jm147 : jmx 147 = 3 := by decide +kernel
theorem jn147 : jna 147 = some 0 := by decide +kernel
theorem jo148 : jow 148 = 12 := by decide +kernel
theorem jr148 : jrt 148 = (Option.some FieldType.int) := by decide +kernel
theorem jm148 : jmx 148 = 1 := by decide +kernel
theorem jn148 : jna 148 = some 0 := by decide +kernel
theorem jo149 : jow 149 = 12 := by decide +kernel
theorem jr149 : jrt 149 = (Option.some FieldType.boolean) := by decide +kernel
theorem jm149 : jmx 149 = 1 := by decide +kernel
theorem jn149 : jna 149 = some 0 := by decide +kernel
theorem jo150 : jow 150 = 12 := by decide +kernel
theorem jr150 : jrt 150 = (Option.some FieldType.boolean) := by decide +kernel
theorem jm150 : jmx 150 = 6 := by decide +kernel
theorem jn150 : jna 150 = some 1 := by decide +kernel
theorem jo151 : jow 151 = 12 := by decide +kernel
theorem jr151 : jrt 151 = (Option.some FieldType.boolean) := by decide +kernel
theorem jm151 : jmx 151 = 2 := by decide +kernel
theorem jn151 : jna 151 = some 1 := by decide +kernel
theorem jo152 : jow 152 = 12 := by decide +kernel
theorem jr152 : jrt 152 = (Option.some FieldType.boolean) := by decide +kernel
theorem jm152 : jmx 152 = 3 := by decide +kernel
theorem jn152 : jna 152 = some 2 := by decide +kernel
theorem jo153 : jow 153 = 12 := by decide +kernel
theorem jr153 : jrt 153 = (Option.some FieldType.boolean) := by decide +kernel
theorem jm153 : jmx 153 = 2 := by decide +kernel
theorem jn153 : jna 153 = some 1 := by decide +kernel
theorem jo154 : jow 154 = 12 := by decide +kernel
theorem jr154 : jrt 154 = (Option.some FieldType.boolean) := by decide +kernel
theorem jm154 : jmx 154 = 2 := by decide +kernel
theorem jn154 : jna 154 = some 1 := by decide +kernel
theorem jo155 : jow 155 = 12 := by decide +kernel
theorem jr155 : jrt 155 = (Option.none : Option FieldType) := by decide +kernel
theorem jm155 : jmx 155 = 1 := by decide +kernel
theorem jn155 : jna 155 = some 0 := by decide +kernel
theorem jo156 : jow 156 = 12 := by decide +kernel
theorem jr156 : jrt 156 = (Option.some FieldType.boolean) := by decide +kernel
theorem jm156 : jmx 156 = 4 := by decide +kernel
theorem jn156 : jna 156 = some 3 := by decide +kernel
theorem jo157 : jow 157 = 12 := by decide +kernel
theorem jr157 : jrt 157 = (Option.some FieldType.boolean) := by decide +kernel
theorem jm157 : jmx 157 = 5 := by decide +kernel
theorem jn157 : jna 157 = some 2 := by decide +kernel
theorem jo158 : jow 158 = 12 := by decide +kernel
theorem jr158 : jrt 158 = (Option.some FieldType.boolean) := by decide +kernel
theorem jm158 : jmx 158 = 2 := by decide +kernel
theorem jn158 : jna 158 = some 1 := by decide +kernel
theorem jo159 : jow 159 = 12 := by decide +kernel
theorem jr159 : jrt 159 = (Option.some FieldType.boolean) := by decide +kernel
theorem jm159 : jmx 159 = 6 := by decide +kernel
theorem jn159 : jna 159 = some 3 := by decide +kernel
theorem jo160 : jow 160 = 12 := by decide +kernel
theorem jr160 : jrt 160 = (Option.some FieldType.boolean) := by decide +kernel
theorem jm160 : jmx 160 = 2 := by decide +kernel
theorem jn160 : jna 160 = some 1 := by decide +kernel
theorem jo161 : jow 161 = 12 := by decide +kernel
theorem jr161 : jrt 161 = (Option.some FieldType.boolean) := by decide +kernel
theorem jm161 : jmx 161 = 2 := by decide +kernel
theorem jn161 : jna 161 = some 1 := by decide +kernel
theorem jo162 : jow 162 = 12 := by decide +kernel
theorem jr162 : jrt 162 = (Option.some FieldType.boolean) := by decide +kernel
theorem jm162 : jmx 162 = 2 := by decide +kernel
theorem jn162 : jna 162 = some 1 := by decide +kernel
theorem jo163 : jow 163 = 12 := by decide +kernel
theorem jr163 : jrt 163 = (Option.some FieldType.boolean) := by decide +kernel
theorem jm163 : jmx 163 = 2 := by decide +kernel
theorem jn163 : jna 163 = some 0 := by decide +kernel
theorem jo164 : jow 164 = 12 := by decide +kernel
theorem jr164 : jrt 164 = (Option.some FieldType.boolean) := by decide +kernel
theorem jm164 : jmx 164 = 2 := by decide +kernel
theorem jn164 : jna 164 = some 0 := by decide +kernel
theorem jo165 : jow 165 = 12 := by decide +kernel
theorem jr165 : jrt 165 = (Option.some FieldType.boolean) := by decide +kernel
theorem jm165 : jmx 165 = 2 := by decide +kernel
theorem jn165 : jna 165 = some 0 := by decide +kernel
theorem jo166 : jow 166 = 12 := by decide +kernel
theorem jr166 : jrt 166 = (Option.some FieldType.boolean) := by decide +kernel
theorem jm166 : jmx 166 = 2 := by decide +kernel
theorem jn166 : jna 166 = some 0 := by decide +kernel
theorem jo167 : jow 167 = 12 := by decide +kernel
theorem jr167 : jrt 167 = (Option.some FieldType.boolean) := by decide +kernel
theorem jm167 : jmx 167 = 3 := by decide +kernel
theorem jn167 : jna 167 = some 0 := by decide +kernel
theorem jo168 : jow 168 = 12 := by decide +kernel
theorem jr168 : jrt 168 = (Option.some FieldType.boolean) := by decide +kernel
theorem jm168 : jmx 168 = 2 := by decide +kernel
theorem jn168 : jna 168 = some 1 := by decide +kernel
theorem jo169 : jow 169 = 12 := by decide +kernel
theorem jr169 : jrt 169 = (Option.none : Option FieldType) := by decide +kernel
theorem jm169 : jmx 169 = 3 := by decide +kernel
theorem jn169 : jna 169 = some 2 := by decide +kernel
theorem jo170 : jow 170 = 12 := by decide +kernel
theorem jr170 : jrt 170 = (Option.some FieldType.int) := by decide +kernel
theorem jm170 : jmx 170 = 1 := by decide +kernel
theorem jn170 : jna 170 = some 0 := by decide +kernel
theorem jo171 : jow 171 = 12 := by decide +kernel
theorem jr171 : jrt 171 = (Option.some FieldType.boolean) := by decide +kernel
theorem jm171 : jmx 171 = 3 := by decide +kernel
theorem jn171 : jna 171 = some 1 := by decide +kernel
theorem jo172 : jow 172 = 12 := by decide +kernel
theorem jr172 : jrt 172 = (Option.some FieldType.boolean) := by decide +kernel
theorem jm172 : jmx 172 = 3 := by decide +kernel
theorem jn172 : jna 172 = some 0 := by decide +kernel
theorem jo173 : jow 173 = 12 := by decide +kernel
theorem jr173 : jrt 173 = (Option.some FieldType.boolean) := by decide +kernel
theorem jm173 : jmx 173 = 3 := by decide +kernel
theorem jn173 : jna 173 = some 0 := by decide +kernel
theorem jo174 : jow 174 = 12 := by decide +kernel
theorem jr174 : jrt 174 = (Option.some FieldType.boolean) := by decide +kernel
theorem jm174 : jmx 174 = 2 := by decide +kernel
theorem jn174 : jna 174 = some 1 := by decide +kernel
theorem jo175 : jow 175 = 12 := by decide +kernel
theorem jr175 : jrt 175 = (Option.some FieldType.boolean) := by decide +kernel
theorem jm175 : jmx 175 = 5 := by decide +kernel
theorem jn175 : jna 175 = some 0 := by decide +kernel
theorem jo176 : jow 176 = 12 := by decide +kernel
theorem jr176 : jrt 176 = (Option.none : Option FieldType) := by decide +kernel
theorem jm176 : jmx 176 = 1 := by decide +kernel
theorem jn176 : jna 176 = some 0 := by decide +kernel
theorem jo177 : jow 177 = 12 := by decide +kernel
theorem jr177 : jrt 177 = (Option.none : Option FieldType) := by decide +kernel
theorem jm177 : jmx 177 = 2 := by decide +kernel
theorem jn177 : jna 177 = some 1 := by decide +kernel
theorem jo178 : jow 178 = 12 := by decide +kernel
theorem jr178 : jrt 178 = (Option.some FieldType.int) := by decide +kernel
theorem jm178 : jmx 178 = 1 := by decide +kernel
theorem jn178 : jna 178 = some 1 := by decide +kernel
theorem jo179 : jow 179 = 12 := by decide +kernel
theorem jr179 : jrt 179 = (Option.some FieldType.boolean) := by decide +kernel
theorem jm179 : jmx 179 = 2 := by decide +kernel
theorem jn179 : jna 179 = some 0 := by decide +kernel
theorem jo180 : jow 180 = 12 := by decide +kernel
theorem jr180 : jrt 180 = (Option.some FieldType.int) := by decide +kernel
theorem jm180 : jmx 180 = 2 := by decide +kernel
theorem jn180 : jna 180 = some 0 := by decide +kernel
theorem jo181 : jow 181 = 12 := by decide +kernel
theorem jr181 : jrt 181 = (Option.none : Option FieldType) := by decide +kernel
theorem jm181 : jmx 181 = 2 := by decide +kernel
theorem jn181 : jna 181 = some 0 := by decide +kernel
theorem jo182 : jow 182 = 12 := by decide +kernel
theorem jr182 : jrt 182 = (Option.some FieldType.int) := by decide +kernel
theorem jm182 : jmx 182 = 3 := by decide +kernel
theorem jn182 : jna 182 = some 1 := by decide +kernel
theorem jo183 : jow 183 = 12 := by decide +kernel
theorem jr183 : jrt 183 = (Option.some FieldType.boolean) := by decide +kernel
theorem jm183 : jmx 183 = 2 := by decide +kernel
theorem jn183 : jna 183 = some 1 := by decide +kernel
theorem jo184 : jow 184 = 12 := by decide +kernel
theorem jr184 : jrt 184 = (Option.some FieldType.int) := by decide +kernel
theorem jm184 : jmx 184 = 3 := by decide +kernel
theorem jn184 : jna 184 = some 2 := by decide +kernel
theorem jo185 : jow 185 = 12 := by decide +kernel
theorem jr185 : jrt 185 = (Option.some FieldType.boolean) := by decide +kernel
theorem jm185 : jmx 185 = 2 := by decide +kernel
theorem jn185 : jna 185 = some 1 := by decide +kernel
theorem jo186 : jow 186 = 12 := by decide +kernel
theorem jr186 : jrt 186 = (Option.some FieldType.int) := by decide +kernel
theorem jm186 : jmx 186 = 4 := by decide +kernel
theorem jn186 : jna 186 = some 1 := by decide +kernel
theorem jo187 : jow 187 = 12 := by decide +kernel
theorem jr187 : jrt 187 = (Option.some FieldType.int) := by decide +kernel
theorem jm187 : jmx 187 = 1 := by decide +kernel
theorem jn187 : jna 187 = some 0 := by decide +kernel
theorem jo188 : jow 188 = 12 := by decide +kernel
theorem jr188 : jrt 188 = (Option.some FieldType.int) := by decide +kernel
theorem jm188 : jmx 188 = 2 := by decide +kernel
theorem jn188 : jna 188 = some 1 := by decide +kernel
theorem jo189 : jow 189 = 12 := by decide +kernel
theorem jr189 : jrt 189 = (Option.some FieldType.boolean) := by decide +kernel
theorem jm189 : jmx 189 = 4 := by decide +kernel
theorem jn189 : jna 189 = some 3 := by decide +kernel
theorem jo190 : jow 190 = 12 := by decide +kernel
theorem jr190 : jrt 190 = (Option.some FieldType.int) := by decide +kernel
theorem jm190 : jmx 190 = 3 := by decide +kernel
theorem jn190 : jna 190 = some 2 := by decide +kernel
theorem jo191 : jow 191 = 12 := by decide +kernel
theorem jr191 : jrt 191 = (Option.some FieldType.int) := by decide +kernel
theorem jm191 : jmx 191 = 2 := by decide +kernel
theorem jn191 : jna 191 = some 1 := by decide +kernel
theorem jo192 : jow 192 = 12 := by decide +kernel
theorem jr192 : jrt 192 = (Option.some FieldType.int) := by decide +kernel
theorem jm192 : jmx 192 = 3 := by decide +kernel
theorem jn192 : jna 192 = some 2 := by decide +kernel
theorem jo193 : jow 193 = 12 := by decide +kernel
theorem jr193 : jrt 193 = (Option.some FieldType.boolean) := by decide +kernel
theorem jm193 : jmx 193 = 2 := by decide +kernel
theorem jn193 : jna 193 = some 1 := by decide +kernel
theorem jo194 : jow 194 = 12 := by decide +kernel
theorem jr194 : jrt 194 = (Option.some FieldType.int) := by decide +kernel
theorem jm194 : jmx 194 = 2 := by decide +kernel
theorem jn194 : jna 194 = some 1 := by decide +kernel
theorem jo195 : jow 195 = 12 := by decide +kernel
theorem jr195 : jrt 195 = (Option.some FieldType.int) := by decide +kernel
theorem jm195 : jmx 195 = 2 := by decide +kernel
theorem jn195 : jna 195 = some 0 := by decide +kernel
theorem jo196 : jow 196 = 12 := by decide +kernel
theorem jr196 : jrt 196 = (Option.some FieldType.int) := by decide +kernel
theorem jm196 : jmx 196 = 1 := by decide +kernel
theorem jn196 : jna 196 = some 0 := by decide +kernel
theorem jo197 : jow 197 = 12 := by decide +kernel
theorem jr197 : jrt 197 = (Option.some FieldType.boolean) := by decide +kernel
theorem jm197 : jmx 197 = 1 := by decide +kernel
theorem jn197 : jna 197 = some 0 := by decide +kernel
theorem jo198 : jow 198 = 12 := by decide +kernel
theorem jr198 : jrt 198 = (Option.none : Option FieldType) := by decide +kernel
theorem jm198 : jmx 198 = 2 := by decide +kernel
theorem jn198 : jna 198 = some 0 := by decide +kernel
theorem jo199 : jow 199 = 12 := by decide +kernel
theorem jr199 : jrt 199 = (Option.some FieldType.int) := by decide +kernel
theorem jm199 : jmx 199 = 4 := by decide +kernel
theorem jn199 : jna 199 = some 0 := by decide +kernel
theorem jo200 : jow 200 = 12 := by decide +kernel
theorem jr200 : jrt 200 = (Option.some FieldType.int) := by decide +kernel
theorem jm200 : jmx 200 = 8 := by decide +kernel
theorem jn200 : jna 200 = some 1 := by decide +kernel
theorem jo201 : jow 201 = 12 := by decide +kernel
theorem jr201 : jrt 201 = (Option.some FieldType.boolean) := by decide +kernel
theorem jm201 : jmx 201 = 2 := by decide +kernel
theorem jn201 : jna 201 = some 2 := by decide +kernel
theorem jo202 : jow 202 = 12 := by decide +kernel
theorem jr202 : jrt 202 = (Option.some FieldType.long) := by decide +kernel
theorem jm202 : jmx 202 = 6 := by decide +kernel
theorem jn202 : jna 202 = some 2 := by decide +kernel
theorem jo203 : jow 203 = 12 := by decide +kernel
theorem jr203 : jrt 203 = (Option.some FieldType.int) := by decide +kernel
theorem jm203 : jmx 203 = 3 := by decide +kernel
theorem jn203 : jna 203 = some 1 := by decide +kernel
theorem jo204 : jow 204 = 12 := by decide +kernel
theorem jr204 : jrt 204 = (Option.some FieldType.int) := by decide +kernel
theorem jm204 : jmx 204 = 2 := by decide +kernel
theorem jn204 : jna 204 = some 1 := by decide +kernel
theorem jo205 : jow 205 = 12 := by decide +kernel
theorem jr205 : jrt 205 = (Option.some FieldType.long) := by decide +kernel
theorem jm205 : jmx 205 = 4 := by decide +kernel
theorem jn205 : jna 205 = some 1 := by decide +kernel
theorem jo206 : jow 206 = 12 := by decide +kernel
theorem jr206 : jrt 206 = (Option.some FieldType.long) := by decide +kernel
theorem jm206 : jmx 206 = 11 := by decide +kernel
theorem jn206 : jna 206 = some 3 := by decide +kernel
theorem jo207 : jow 207 = 12 := by decide +kernel
theorem jr207 : jrt 207 = (Option.none : Option FieldType) := by decide +kernel
theorem jm207 : jmx 207 = 3 := by decide +kernel
theorem jn207 : jna 207 = some 1 := by decide +kernel
theorem jo208 : jow 208 = 12 := by decide +kernel
theorem jr208 : jrt 208 = (Option.some FieldType.long) := by decide +kernel
theorem jm208 : jmx 208 = 1 := by decide +kernel
theorem jn208 : jna 208 = some 0 := by decide +kernel
theorem jo209 : jow 209 = 12 := by decide +kernel
theorem jr209 : jrt 209 = (Option.some FieldType.long) := by decide +kernel
theorem jm209 : jmx 209 = 5 := by decide +kernel
theorem jn209 : jna 209 = some 3 := by decide +kernel
theorem jo210 : jow 210 = 12 := by decide +kernel
theorem jr210 : jrt 210 = (Option.some FieldType.boolean) := by decide +kernel
theorem jm210 : jmx 210 = 5 := by decide +kernel
theorem jn210 : jna 210 = some 2 := by decide +kernel
theorem jo211 : jow 211 = 12 := by decide +kernel
theorem jr211 : jrt 211 = (Option.some FieldType.int) := by decide +kernel
theorem jm211 : jmx 211 = 3 := by decide +kernel
theorem jn211 : jna 211 = some 2 := by decide +kernel
theorem jo212 : jow 212 = 12 := by decide +kernel
theorem jr212 : jrt 212 = (Option.some FieldType.int) := by decide +kernel
theorem jm212 : jmx 212 = 3 := by decide +kernel
theorem jn212 : jna 212 = some 2 := by decide +kernel
theorem jo213 : jow 213 = 12 := by decide +kernel
theorem jr213 : jrt 213 = (Option.some FieldType.int) := by decide +kernel
theorem jm213 : jmx 213 = 4 := by decide +kernel
theorem jn213 : jna 213 = some 3 := by decide +kernel
theorem jo214 : jow 214 = 12 := by decide +kernel
theorem jr214 : jrt 214 = (Option.some FieldType.int) := by decide +kernel
theorem jm214 : jmx 214 = 3 := by decide +kernel
theorem jn214 : jna 214 = some 2 := by decide +kernel
theorem jo215 : jow 215 = 12 := by decide +kernel
theorem jr215 : jrt 215 = (Option.some FieldType.int) := by decide +kernel
theorem jm215 : jmx 215 = 5 := by decide +kernel
theorem jn215 : jna 215 = some 3 := by decide +kernel
theorem jo216 : jow 216 = 12 := by decide +kernel
theorem jr216 : jrt 216 = (Option.none : Option FieldType) := by decide +kernel
theorem jm216 : jmx 216 = 2 := by decide +kernel
theorem jn216 : jna 216 = some 0 := by decide +kernel
theorem jo217 : jow 217 = 12 := by decide +kernel
theorem jr217 : jrt 217 = (Option.none : Option FieldType) := by decide +kernel
theorem jm217 : jmx 217 = 3 := by decide +kernel
theorem jn217 : jna 217 = some 1 := by decide +kernel
theorem jo218 : jow 218 = 12 := by decide +kernel
theorem jr218 : jrt 218 = (Option.some FieldType.int) := by decide +kernel
theorem jm218 : jmx 218 = 4 := by decide +kernel
theorem jn218 : jna 218 = some 1 := by decide +kernel
theorem jo219 : jow 219 = 12 := by decide +kernel
theorem jr219 : jrt 219 = (Option.none : Option FieldType) := by decide +kernel
theorem jm219 : jmx 219 = 2 := by decide +kernel
theorem jn219 : jna 219 = some 0 := by decide +kernel
theorem jo220 : jow 220 = 12 := by decide +kernel
theorem jr220 : jrt 220 = (Option.some FieldType.int) := by decide +kernel
theorem jm220 : jmx 220 = 4 := by decide +kernel
theorem jn220 : jna 220 = some 1 := by decide +kernel
theorem jo221 : jow 221 = 12 := by decide +kernel
theorem jr221 : jrt 221 = (Option.some FieldType.int) := by decide +kernel
theorem jm221 : jmx 221 = 6 := by decide +kernel
theorem jn221 : jna 221 = some 1 := by decide +kernel
theorem jo222 : jow 222 = 12 := by decide +kernel
theorem jr222 : jrt 222 = (Option.some FieldType.int) := by decide +kernel
theorem jm222 : jmx 222 = 6 := by decide +kernel
theorem jn222 : jna 222 = some 1 := by decide +kernel
theorem jo223 : jow 223 = 12 := by decide +kernel
theorem jr223 : jrt 223 = (Option.some FieldType.int) := by decide +kernel
theorem jm223 : jmx 223 = 4 := by decide +kernel
theorem jn223 : jna 223 = some 1 := by decide +kernel
theorem jo224 : jow 224 = 12 := by decide +kernel
theorem jr224 : jrt 224 = (Option.some FieldType.int) := by decide +kernel
theorem jm224 : jmx 224 = 2 := by decide +kernel
theorem jn224 : jna 224 = some 1 := by decide +kernel
theorem jo225 : jow 225 = 12 := by decide +kernel
theorem jr225 : jrt 225 = (Option.none : Option FieldType) := by decide +kernel
theorem jm225 : jmx 225 = 3 := by decide +kernel
theorem jn225 : jna 225 = some 0 := by decide +kernel
theorem jo226 : jow 226 = 12 := by decide +kernel
theorem jr226 : jrt 226 = (Option.none : Option FieldType) := by decide +kernel
theorem jm226 : jmx 226 = 3 := by decide +kernel
theorem jn226 : jna 226 = some 0 := by decide +kernel
theorem jo227 : jow 227 = 12 := by decide +kernel
theorem jr227 : jrt 227 = (Option.some FieldType.boolean) := by decide +kernel
theorem jm227 : jmx 227 = 4 := by decide +kernel
theorem jn227 : jna 227 = some 2 := by decide +kernel
theorem jo228 : jow 228 = 12 := by decide +kernel
theorem jr228 : jrt 228 = (Option.some FieldType.int) := by decide +kernel
theorem jm228 : jmx 228 = 4 := by decide +kernel
theorem jn228 : jna 228 = some 0 := by decide +kernel
theorem jo229 : jow 229 = 12 := by decide +kernel
theorem jr229 : jrt 229 = (Option.some FieldType.int) := by decide +kernel
theorem jm229 : jmx 229 = 8 := by decide +kernel
theorem jn229 : jna 229 = some 3 := by decide +kernel
theorem jo230 : jow 230 = 12 := by decide +kernel
theorem jr230 : jrt 230 = (Option.some FieldType.int) := by decide +kernel
theorem jm230 : jmx 230 = 4 := by decide +kernel
theorem jn230 : jna 230 = some 2 := by decide +kernel
theorem jo231 : jow 231 = 12 := by decide +kernel
theorem jr231 : jrt 231 = (Option.none : Option FieldType) := by decide +kernel
theorem jm231 : jmx 231 = 5 := by decide +kernel
theorem jn231 : jna 231 = some 2 := by decide +kernel
theorem jo232 : jow 232 = 12 := by decide +kernel
theorem jr232 : jrt 232 = (Option.some FieldType.int) := by decide +kernel
theorem jm232 : jmx 232 = 4 := by decide +kernel
theorem jn232 : jna 232 = some 2 := by decide +kernel
theorem jo233 : jow 233 = 12 := by decide +kernel
theorem jr233 : jrt 233 = (Option.some FieldType.int) := by decide +kernel
theorem jm233 : jmx 233 = 7 := by decide +kernel
theorem jn233 : jna 233 = some 1 := by decide +kernel
theorem jo234 : jow 234 = 12 := by decide +kernel
theorem jr234 : jrt 234 = (Option.some FieldType.int) := by decide +kernel
theorem jm234 : jmx 234 = 4 := by decide +kernel
theorem jn234 : jna 234 = some 2 := by decide +kernel
theorem jo235 : jow 235 = 12 := by decide +kernel
theorem jr235 : jrt 235 = (Option.some FieldType.int) := by decide +kernel
theorem jm235 : jmx 235 = 7 := by decide +kernel
theorem jn235 : jna 235 = some 2 := by decide +kernel
theorem jo236 : jow 236 = 12 := by decide +kernel
theorem jr236 : jrt 236 = (Option.some FieldType.int) := by decide +kernel
theorem jm236 : jmx 236 = 10 := by decide +kernel
theorem jn236 : jna 236 = some 4 := by decide +kernel
theorem jo237 : jow 237 = 12 := by decide +kernel
theorem jr237 : jrt 237 = (Option.none : Option FieldType) := by decide +kernel
theorem jm237 : jmx 237 = 8 := by decide +kernel
theorem jn237 : jna 237 = some 3 := by decide +kernel
theorem jo238 : jow 238 = 12 := by decide +kernel
theorem jr238 : jrt 238 = (Option.some FieldType.boolean) := by decide +kernel
theorem jm238 : jmx 238 = 4 := by decide +kernel
theorem jn238 : jna 238 = some 2 := by decide +kernel
theorem jo239 : jow 239 = 12 := by decide +kernel
theorem jr239 : jrt 239 = (Option.some FieldType.int) := by decide +kernel
theorem jm239 : jmx 239 = 9 := by decide +kernel
theorem jn239 : jna 239 = some 2 := by decide +kernel
theorem jo240 : jow 240 = 12 := by decide +kernel
theorem jr240 : jrt 240 = (Option.some FieldType.int) := by decide +kernel
theorem jm240 : jmx 240 = 3 := by decide +kernel
theorem jn240 : jna 240 = some 0 := by decide +kernel
theorem jo241 : jow 241 = 12 := by decide +kernel
theorem jr241 : jrt 241 = (Option.some FieldType.int) := by decide +kernel
theorem jm241 : jmx 241 = 4 := by decide +kernel
theorem jn241 : jna 241 = some 1 := by decide +kernel
theorem jo242 : jow 242 = 12 := by decide +kernel
theorem jr242 : jrt 242 = (Option.some FieldType.boolean) := by decide +kernel
theorem jm242 : jmx 242 = 4 := by decide +kernel
theorem jn242 : jna 242 = some 2 := by decide +kernel
theorem jo243 : jow 243 = 12 := by decide +kernel
theorem jr243 : jrt 243 = (Option.some FieldType.int) := by decide +kernel
theorem jm243 : jmx 243 = 6 := by decide +kernel
theorem jn243 : jna 243 = some 4 := by decide +kernel
theorem jo244 : jow 244 = 12 := by decide +kernel
theorem jr244 : jrt 244 = (Option.some FieldType.int) := by decide +kernel
theorem jm244 : jmx 244 = 5 := by decide +kernel
theorem jn244 : jna 244 = some 1 := by decide +kernel
theorem jo245 : jow 245 = 12 := by decide +kernel
theorem jr245 : jrt 245 = (Option.none : Option FieldType) := by decide +kernel
theorem jm245 : jmx 245 = 7 := by decide +kernel
theorem jn245 : jna 245 = some 1 := by decide +kernel
theorem jo246 : jow 246 = 12 := by decide +kernel
theorem jr246 : jrt 246 = (Option.some FieldType.boolean) := by decide +kernel
theorem jm246 : jmx 246 = 3 := by decide +kernel
theorem jn246 : jna 246 = some 1 := by decide +kernel
theorem jo247 : jow 247 = 12 := by decide +kernel
theorem jr247 : jrt 247 = (Option.some FieldType.int) := by decide +kernel
theorem jm247 : jmx 247 = 7 := by decide +kernel
theorem jn247 : jna 247 = some 2 := by decide +kernel
theorem jo248 : jow 248 = 12 := by decide +kernel
theorem jr248 : jrt 248 = (Option.some FieldType.int) := by decide +kernel
theorem jm248 : jmx 248 = 6 := by decide +kernel
theorem jn248 : jna 248 = some 1 := by decide +kernel
theorem jo249 : jow 249 = 12 := by decide +kernel
theorem jr249 : jrt 249 = (Option.some FieldType.int) := by decide +kernel
theorem jm249 : jmx 249 = 3 := by decide +kernel
theorem jn249 : jna 249 = some 1 := by decide +kernel
theorem jo250 : jow 250 = 12 := by decide +kernel
theorem jr250 : jrt 250 = (Option.some FieldType.int) := by decide +kernel
theorem jm250 : jmx 250 = 10 := by decide +kernel
theorem jn250 : jna 250 = some 4 := by decide +kernel
theorem jo251 : jow 251 = 12 := by decide +kernel
theorem jr251 : jrt 251 = (Option.some FieldType.int) := by decide +kernel
theorem jm251 : jmx 251 = 3 := by decide +kernel
theorem jn251 : jna 251 = some 0 := by decide +kernel
theorem jo252 : jow 252 = 12 := by decide +kernel
theorem jr252 : jrt 252 = (Option.some FieldType.int) := by decide +kernel
theorem jm252 : jmx 252 = 2 := by decide +kernel
theorem jn252 : jna 252 = some 1 := by decide +kernel
theorem jo253 : jow 253 = 12 := by decide +kernel
theorem jr253 : jrt 253 = (Option.some FieldType.int) := by decide +kernel
theorem jm253 : jmx 253 = 2 := by decide +kernel
theorem jn253 : jna 253 = some 1 := by decide +kernel
theorem jo254 : jow 254 = 12 := by decide +kernel
theorem jr254 : jrt 254 = (Option.some FieldType.int) := by decide +kernel
theorem jm254 : jmx 254 = 3 := by decide +kernel
theorem jn254 : jna 254 = some 1 := by decide +kernel
theorem jo255 : jow 255 = 12 := by decide +kernel
theorem jr255 : jrt 255 = (Option.some FieldType.int) := by decide +kernel
theorem jm255 : jmx 255 = 3 := by decide +kernel
theorem jn255 : jna 255 = some 1 := by decide +kernel
theorem jo256 : jow 256 = 14 := by decide +kernel
theorem jr256 : jrt 256 = (Option.some FieldType.int) := by decide +kernel
theorem jm256 : jmx 256 = 1 := by decide +kernel
theorem jn256 : jna 256 = some 1 := by decide +kernel
theorem jo257 : jow 257 = 14 := by decide +kernel
theorem jr257 : jrt 257 = (Option.some FieldType.int) := by decide +kernel
theorem jm257 : jmx 257 = 2 := by decide +kernel
theorem jn257 : jna 257 = some 1 := by decide +kernel
theorem jo258 : jow 258 = 16 := by decide +kernel
theorem jr258 : jrt 258 = (Option.none : Option FieldType) := by decide +kernel
theorem jm258 : jmx 258 = 4 := by decide +kernel
theorem jn258 : jna 258 = some 2 := by decide +kernel
theorem jo259 : jow 259 = 16 := by decide +kernel
theorem jr259 : jrt 259 = (Option.some (FieldType.array FieldType.int)) := by decide +kernel
theorem jm259 : jmx 259 = 3 := by decide +kernel
theorem jn259 : jna 259 = some 2 := by decide +kernel
theorem jo260 : jow 260 = 17 := by decide +kernel
theorem jr260 : jrt 260 = (Option.some FieldType.int) := by decide +kernel
theorem jm260 : jmx 260 = 1 := by decide +kernel
theorem jn260 : jna 260 = some 0 := by decide +kernel
theorem jo261 : jow 261 = 17 := by decide +kernel
theorem jr261 : jrt 261 = (Option.some FieldType.byte) := by decide +kernel
theorem jm261 : jmx 261 = 1 := by decide +kernel
theorem jn261 : jna 261 = some 0 := by decide +kernel
theorem jo262 : jow 262 = 17 := by decide +kernel
theorem jr262 : jrt 262 = (Option.some FieldType.char) := by decide +kernel
theorem jm262 : jmx 262 = 2 := by decide +kernel
theorem jn262 : jna 262 = some 1 := by decide +kernel
theorem jo263 : jow 263 = 17 := by decide +kernel
theorem jr263 : jrt 263 = (Option.some FieldType.boolean) := by decide +kernel
theorem jm263 : jmx 263 = 1 := by decide +kernel
theorem jn263 : jna 263 = some 0 := by decide +kernel
theorem jo264 : jow 264 = 17 := by decide +kernel
theorem jr264 : jrt 264 = (Option.none : Option FieldType) := by decide +kernel
theorem jm264 : jmx 264 = 2 := by decide +kernel
theorem jn264 : jna 264 = some 2 := by decide +kernel
theorem jo265 : jow 265 = 18 := by decide +kernel
theorem jr265 : jrt 265 = (Option.some FieldType.char) := by decide +kernel
theorem jm265 : jmx 265 = 2 := by decide +kernel
theorem jn265 : jna 265 = some 2 := by decide +kernel
theorem jo266 : jow 266 = 19 := by decide +kernel
theorem jr266 : jrt 266 = (Option.some FieldType.int) := by decide +kernel
theorem jm266 : jmx 266 = 3 := by decide +kernel
theorem jn266 : jna 266 = some 3 := by decide +kernel
theorem jo267 : jow 267 = 13 := by decide +kernel
theorem jr267 : jrt 267 = (Option.some FieldType.boolean) := by decide +kernel
theorem jm267 : jmx 267 = 4 := by decide +kernel
theorem jn267 : jna 267 = some 1 := by decide +kernel
theorem jf0_9 : jFL.find? (fun q => q.1 == 0 && q.2.1 == 9) = some (0, 9, 0, 0, 0, 206) := by decide +kernel
theorem jf0_15 : jFL.find? (fun q => q.1 == 0 && q.2.1 == 15) = some (0, 15, 0, 1, 0, 208) := by decide +kernel
theorem jf0_19 : jFL.find? (fun q => q.1 == 0 && q.2.1 == 19) = some (0, 19, 0, 2, 0, 212) := by decide +kernel
theorem jf0_22 : jFL.find? (fun q => q.1 == 0 && q.2.1 == 22) = some (0, 22, 0, 3, 0, 214) := by decide +kernel
theorem jf0_25 : jFL.find? (fun q => q.1 == 0 && q.2.1 == 25) = some (0, 25, 0, 4, 0, 216) := by decide +kernel
theorem jf0_28 : jFL.find? (fun q => q.1 == 0 && q.2.1 == 28) = some (0, 28, 0, 5, 0, 222) := by decide +kernel
theorem jf0_31 : jFL.find? (fun q => q.1 == 0 && q.2.1 == 31) = some (0, 31, 0, 6, 0, 227) := by decide +kernel
theorem jf0_35 : jFL.find? (fun q => q.1 == 0 && q.2.1 == 35) = some (0, 35, 0, 7, 0, 228) := by decide +kernel
theorem jf0_38 : jFL.find? (fun q => q.1 == 0 && q.2.1 == 38) = some (0, 38, 0, 8, 0, 233) := by decide +kernel
theorem jf0_72 : jFL.find? (fun q => q.1 == 0 && q.2.1 == 72) = some (0, 72, 10, 4, 1, 146) := by decide +kernel
theorem jf1_12 : jFL.find? (fun q => q.1 == 1 && q.2.1 == 12) = some (1, 12, 1, 0, 0, 394) := by decide +kernel
theorem jf1_20 : jFL.find? (fun q => q.1 == 1 && q.2.1 == 20) = some (1, 20, 1, 1, 0, 396) := by decide +kernel
theorem jf1_24 : jFL.find? (fun q => q.1 == 1 && q.2.1 == 24) = some (1, 24, 1, 2, 0, 397) := by decide +kernel
theorem jf1_30 : jFL.find? (fun q => q.1 == 1 && q.2.1 == 30) = some (1, 30, 1, 3, 0, 398) := by decide +kernel
theorem jf1_34 : jFL.find? (fun q => q.1 == 1 && q.2.1 == 34) = some (1, 34, 1, 4, 0, 399) := by decide +kernel
theorem jf1_38 : jFL.find? (fun q => q.1 == 1 && q.2.1 == 38) = some (1, 38, 1, 5, 0, 400) := by decide +kernel
theorem jf1_42 : jFL.find? (fun q => q.1 == 1 && q.2.1 == 42) = some (1, 42, 1, 6, 0, 402) := by decide +kernel
theorem jf1_45 : jFL.find? (fun q => q.1 == 1 && q.2.1 == 45) = some (1, 45, 1, 7, 0, 404) := by decide +kernel
theorem jf1_60 : jFL.find? (fun q => q.1 == 1 && q.2.1 == 60) = some (1, 60, 0, 1, 1, 209) := by decide +kernel
theorem jf1_61 : jFL.find? (fun q => q.1 == 1 && q.2.1 == 61) = some (1, 61, 9, 0, 1, 261) := by decide +kernel
theorem jf1_68 : jFL.find? (fun q => q.1 == 1 && q.2.1 == 68) = some (1, 68, 0, 5, 1, 225) := by decide +kernel
theorem jf1_86 : jFL.find? (fun q => q.1 == 1 && q.2.1 == 86) = some (1, 86, 0, 4, 1, 219) := by decide +kernel
theorem jf1_97 : jFL.find? (fun q => q.1 == 1 && q.2.1 == 97) = some (1, 97, 0, 7, 1, 230) := by decide +kernel
theorem jf1_115 : jFL.find? (fun q => q.1 == 1 && q.2.1 == 115) = some (1, 115, 9, 2, 1, 270) := by decide +kernel
theorem jf1_118 : jFL.find? (fun q => q.1 == 1 && q.2.1 == 118) = some (1, 118, 9, 3, 1, 274) := by decide +kernel
theorem jf2_12 : jFL.find? (fun q => q.1 == 2 && q.2.1 == 12) = some (2, 12, 2, 0, 0, 424) := by decide +kernel
theorem jf2_18 : jFL.find? (fun q => q.1 == 2 && q.2.1 == 18) = some (2, 18, 2, 1, 0, 425) := by decide +kernel
theorem jf2_22 : jFL.find? (fun q => q.1 == 2 && q.2.1 == 22) = some (2, 22, 2, 2, 0, 426) := by decide +kernel
theorem jf2_26 : jFL.find? (fun q => q.1 == 2 && q.2.1 == 26) = some (2, 26, 2, 3, 0, 427) := by decide +kernel
theorem jf2_30 : jFL.find? (fun q => q.1 == 2 && q.2.1 == 30) = some (2, 30, 2, 4, 0, 429) := by decide +kernel
theorem jf2_33 : jFL.find? (fun q => q.1 == 2 && q.2.1 == 33) = some (2, 33, 3, 3, 1, 320) := by decide +kernel
theorem jf2_39 : jFL.find? (fun q => q.1 == 2 && q.2.1 == 39) = some (2, 39, 3, 0, 1, 312) := by decide +kernel
theorem jf2_55 : jFL.find? (fun q => q.1 == 2 && q.2.1 == 55) = some (2, 55, 1, 0, 1, 395) := by decide +kernel
theorem jf2_68 : jFL.find? (fun q => q.1 == 2 && q.2.1 == 68) = some (2, 68, 0, 4, 1, 217) := by decide +kernel
theorem jf2_73 : jFL.find? (fun q => q.1 == 2 && q.2.1 == 73) = some (2, 73, 9, 1, 1, 266) := by decide +kernel
theorem jf2_76 : jFL.find? (fun q => q.1 == 2 && q.2.1 == 76) = some (2, 76, 9, 0, 1, 262) := by decide +kernel
theorem jf2_85 : jFL.find? (fun q => q.1 == 2 && q.2.1 == 85) = some (2, 85, 1, 5, 1, 401) := by decide +kernel
theorem jf2_88 : jFL.find? (fun q => q.1 == 2 && q.2.1 == 88) = some (2, 88, 0, 5, 1, 226) := by decide +kernel
theorem jf2_98 : jFL.find? (fun q => q.1 == 2 && q.2.1 == 98) = some (2, 98, 1, 6, 1, 403) := by decide +kernel
theorem jf2_112 : jFL.find? (fun q => q.1 == 2 && q.2.1 == 112) = some (2, 112, 3, 2, 1, 318) := by decide +kernel
theorem jf2_119 : jFL.find? (fun q => q.1 == 2 && q.2.1 == 119) = some (2, 119, 1, 7, 1, 405) := by decide +kernel
theorem jf2_145 : jFL.find? (fun q => q.1 == 2 && q.2.1 == 145) = some (2, 145, 3, 4, 1, 325) := by decide +kernel
theorem jf3_12 : jFL.find? (fun q => q.1 == 3 && q.2.1 == 12) = some (3, 12, 3, 0, 0, 310) := by decide +kernel
theorem jf3_18 : jFL.find? (fun q => q.1 == 3 && q.2.1 == 18) = some (3, 18, 3, 1, 0, 314) := by decide +kernel
theorem jf3_22 : jFL.find? (fun q => q.1 == 3 && q.2.1 == 22) = some (3, 22, 3, 2, 0, 316) := by decide +kernel
theorem jf3_28 : jFL.find? (fun q => q.1 == 3 && q.2.1 == 28) = some (3, 28, 3, 3, 0, 319) := by decide +kernel
theorem jf3_35 : jFL.find? (fun q => q.1 == 3 && q.2.1 == 35) = some (3, 35, 3, 4, 0, 323) := by decide +kernel
theorem jf4_9 : jFL.find? (fun q => q.1 == 4 && q.2.1 == 9) = some (4, 9, 4, 0, 0, 293) := by decide +kernel
theorem jf4_15 : jFL.find? (fun q => q.1 == 4 && q.2.1 == 15) = some (4, 15, 4, 1, 0, 295) := by decide +kernel
theorem jf4_19 : jFL.find? (fun q => q.1 == 4 && q.2.1 == 19) = some (4, 19, 4, 2, 0, 296) := by decide +kernel
theorem jf4_22 : jFL.find? (fun q => q.1 == 4 && q.2.1 == 22) = some (4, 22, 4, 3, 0, 297) := by decide +kernel
theorem jf4_25 : jFL.find? (fun q => q.1 == 4 && q.2.1 == 25) = some (4, 25, 4, 4, 0, 298) := by decide +kernel
theorem jf5_11 : jFL.find? (fun q => q.1 == 5 && q.2.1 == 11) = some (5, 11, 5, 0, 0, 345) := by decide +kernel
theorem jf5_15 : jFL.find? (fun q => q.1 == 5 && q.2.1 == 15) = some (5, 15, 5, 1, 0, 346) := by decide +kernel
theorem jf5_19 : jFL.find? (fun q => q.1 == 5 && q.2.1 == 19) = some (5, 19, 5, 2, 0, 347) := by decide +kernel
theorem jf6_9 : jFL.find? (fun q => q.1 == 6 && q.2.1 == 9) = some (6, 9, 6, 0, 0, 365) := by decide +kernel
theorem jf6_15 : jFL.find? (fun q => q.1 == 6 && q.2.1 == 15) = some (6, 15, 6, 1, 0, 366) := by decide +kernel
theorem jf6_21 : jFL.find? (fun q => q.1 == 6 && q.2.1 == 21) = some (6, 21, 6, 2, 0, 367) := by decide +kernel
theorem jf6_25 : jFL.find? (fun q => q.1 == 6 && q.2.1 == 25) = some (6, 25, 6, 3, 0, 368) := by decide +kernel
theorem jf6_28 : jFL.find? (fun q => q.1 == 6 && q.2.1 == 28) = some (6, 28, 3, 0, 1, 311) := by decide +kernel
theorem jf6_34 : jFL.find? (fun q => q.1 == 6 && q.2.1 == 34) = some (6, 34, 0, 5, 1, 223) := by decide +kernel
theorem jf6_40 : jFL.find? (fun q => q.1 == 6 && q.2.1 == 40) = some (6, 40, 3, 3, 1, 321) := by decide +kernel
theorem jf6_87 : jFL.find? (fun q => q.1 == 6 && q.2.1 == 87) = some (6, 87, 9, 2, 1, 271) := by decide +kernel
theorem jf6_97 : jFL.find? (fun q => q.1 == 6 && q.2.1 == 97) = some (6, 97, 9, 0, 1, 264) := by decide +kernel
theorem jf6_103 : jFL.find? (fun q => q.1 == 6 && q.2.1 == 103) = some (6, 103, 0, 7, 1, 232) := by decide +kernel
theorem jf6_106 : jFL.find? (fun q => q.1 == 6 && q.2.1 == 106) = some (6, 106, 0, 4, 1, 221) := by decide +kernel
theorem jf6_117 : jFL.find? (fun q => q.1 == 6 && q.2.1 == 117) = some (6, 117, 0, 1, 1, 211) := by decide +kernel
theorem jf7_7 : jFL.find? (fun q => q.1 == 7 && q.2.1 == 7) = some (7, 7, 7, 0, 0, 661) := by decide +kernel
theorem jf7_13 : jFL.find? (fun q => q.1 == 7 && q.2.1 == 13) = some (7, 13, 7, 1, 0, 662) := by decide +kernel
theorem jf7_17 : jFL.find? (fun q => q.1 == 7 && q.2.1 == 17) = some (7, 17, 7, 2, 0, 663) := by decide +kernel
theorem jf7_20 : jFL.find? (fun q => q.1 == 7 && q.2.1 == 20) = some (7, 20, 7, 3, 0, 664) := by decide +kernel
theorem jf8_9 : jFL.find? (fun q => q.1 == 8 && q.2.1 == 9) = some (8, 9, 8, 0, 0, 173) := by decide +kernel
theorem jf8_15 : jFL.find? (fun q => q.1 == 8 && q.2.1 == 15) = some (8, 15, 8, 1, 0, 174) := by decide +kernel
theorem jf8_18 : jFL.find? (fun q => q.1 == 8 && q.2.1 == 18) = some (8, 18, 8, 2, 0, 175) := by decide +kernel
theorem jf8_23 : jFL.find? (fun q => q.1 == 8 && q.2.1 == 23) = some (8, 23, 8, 3, 0, 176) := by decide +kernel
theorem jf8_29 : jFL.find? (fun q => q.1 == 8 && q.2.1 == 29) = some (8, 29, 8, 4, 0, 177) := by decide +kernel
theorem jf8_32 : jFL.find? (fun q => q.1 == 8 && q.2.1 == 32) = some (8, 32, 8, 5, 0, 178) := by decide +kernel
theorem jf8_75 : jFL.find? (fun q => q.1 == 8 && q.2.1 == 75) = some (8, 75, 10, 4, 1, 145) := by decide +kernel
theorem jf8_101 : jFL.find? (fun q => q.1 == 8 && q.2.1 == 101) = some (8, 101, 10, 5, 1, 148) := by decide +kernel
theorem jf9_9 : jFL.find? (fun q => q.1 == 9 && q.2.1 == 9) = some (9, 9, 9, 0, 0, 260) := by decide +kernel
theorem jf9_15 : jFL.find? (fun q => q.1 == 9 && q.2.1 == 15) = some (9, 15, 9, 1, 0, 265) := by decide +kernel
theorem jf9_19 : jFL.find? (fun q => q.1 == 9 && q.2.1 == 19) = some (9, 19, 9, 2, 0, 268) := by decide +kernel
theorem jf9_22 : jFL.find? (fun q => q.1 == 9 && q.2.1 == 22) = some (9, 22, 9, 3, 0, 272) := by decide +kernel
theorem jf9_25 : jFL.find? (fun q => q.1 == 9 && q.2.1 == 25) = some (9, 25, 9, 4, 0, 275) := by decide +kernel
theorem jf9_34 : jFL.find? (fun q => q.1 == 9 && q.2.1 == 34) = some (9, 34, 0, 8, 1, 234) := by decide +kernel
theorem jf9_47 : jFL.find? (fun q => q.1 == 9 && q.2.1 == 47) = some (9, 47, 0, 4, 1, 218) := by decide +kernel
theorem jf9_54 : jFL.find? (fun q => q.1 == 9 && q.2.1 == 54) = some (9, 54, 0, 7, 1, 229) := by decide +kernel
theorem jf10_11 : jFL.find? (fun q => q.1 == 10 && q.2.1 == 11) = some (10, 11, 10, 0, 0, 139) := by decide +kernel
theorem jf10_15 : jFL.find? (fun q => q.1 == 10 && q.2.1 == 15) = some (10, 15, 10, 1, 0, 140) := by decide +kernel
theorem jf10_19 : jFL.find? (fun q => q.1 == 10 && q.2.1 == 19) = some (10, 19, 10, 2, 0, 142) := by decide +kernel
theorem jf10_22 : jFL.find? (fun q => q.1 == 10 && q.2.1 == 22) = some (10, 22, 10, 3, 0, 143) := by decide +kernel
theorem jf10_25 : jFL.find? (fun q => q.1 == 10 && q.2.1 == 25) = some (10, 25, 10, 4, 0, 144) := by decide +kernel
theorem jf10_28 : jFL.find? (fun q => q.1 == 10 && q.2.1 == 28) = some (10, 28, 10, 5, 0, 147) := by decide +kernel
theorem jf10_31 : jFL.find? (fun q => q.1 == 10 && q.2.1 == 31) = some (10, 31, 10, 6, 0, 149) := by decide +kernel
theorem jf11_10 : jFL.find? (fun q => q.1 == 11 && q.2.1 == 10) = some (11, 10, 11, 0, 0, 442) := by decide +kernel
theorem jf11_19 : jFL.find? (fun q => q.1 == 11 && q.2.1 == 19) = some (11, 19, 11, 1, 0, 443) := by decide +kernel
theorem jf11_25 : jFL.find? (fun q => q.1 == 11 && q.2.1 == 25) = some (11, 25, 11, 2, 0, 444) := by decide +kernel
theorem jf11_29 : jFL.find? (fun q => q.1 == 11 && q.2.1 == 29) = some (11, 29, 11, 3, 0, 445) := by decide +kernel
theorem jf11_36 : jFL.find? (fun q => q.1 == 11 && q.2.1 == 36) = some (11, 36, 11, 4, 0, 446) := by decide +kernel
theorem jf11_43 : jFL.find? (fun q => q.1 == 11 && q.2.1 == 43) = some (11, 43, 11, 5, 0, 447) := by decide +kernel
theorem jf11_47 : jFL.find? (fun q => q.1 == 11 && q.2.1 == 47) = some (11, 47, 11, 6, 0, 448) := by decide +kernel
theorem jf11_54 : jFL.find? (fun q => q.1 == 11 && q.2.1 == 54) = some (11, 54, 11, 7, 0, 449) := by decide +kernel
theorem jf11_61 : jFL.find? (fun q => q.1 == 11 && q.2.1 == 61) = some (11, 61, 11, 8, 0, 450) := by decide +kernel
theorem jf11_73 : jFL.find? (fun q => q.1 == 11 && q.2.1 == 73) = some (11, 73, 10, 1, 1, 141) := by decide +kernel
theorem jf11_83 : jFL.find? (fun q => q.1 == 11 && q.2.1 == 83) = some (11, 83, 10, 6, 1, 150) := by decide +kernel
theorem jf11_86 : jFL.find? (fun q => q.1 == 11 && q.2.1 == 86) = some (11, 86, 3, 0, 1, 313) := by decide +kernel
theorem jf11_90 : jFL.find? (fun q => q.1 == 11 && q.2.1 == 90) = some (11, 90, 3, 3, 1, 322) := by decide +kernel
theorem jf11_100 : jFL.find? (fun q => q.1 == 11 && q.2.1 == 100) = some (11, 100, 3, 4, 1, 324) := by decide +kernel
theorem jf11_104 : jFL.find? (fun q => q.1 == 11 && q.2.1 == 104) = some (11, 104, 4, 0, 1, 294) := by decide +kernel
theorem jf11_109 : jFL.find? (fun q => q.1 == 11 && q.2.1 == 109) = some (11, 109, 5, 2, 1, 348) := by decide +kernel
theorem jf11_110 : jFL.find? (fun q => q.1 == 11 && q.2.1 == 110) = some (11, 110, 0, 5, 1, 224) := by decide +kernel
theorem jf11_118 : jFL.find? (fun q => q.1 == 11 && q.2.1 == 118) = some (11, 118, 3, 1, 1, 315) := by decide +kernel
theorem jf11_124 : jFL.find? (fun q => q.1 == 11 && q.2.1 == 124) = some (11, 124, 9, 1, 1, 267) := by decide +kernel
theorem jf11_128 : jFL.find? (fun q => q.1 == 11 && q.2.1 == 128) = some (11, 128, 9, 2, 1, 269) := by decide +kernel
theorem jf11_131 : jFL.find? (fun q => q.1 == 11 && q.2.1 == 131) = some (11, 131, 9, 3, 1, 273) := by decide +kernel
theorem jf11_149 : jFL.find? (fun q => q.1 == 11 && q.2.1 == 149) = some (11, 149, 0, 7, 1, 231) := by decide +kernel
theorem jf11_152 : jFL.find? (fun q => q.1 == 11 && q.2.1 == 152) = some (11, 152, 0, 1, 1, 210) := by decide +kernel
theorem jf11_155 : jFL.find? (fun q => q.1 == 11 && q.2.1 == 155) = some (11, 155, 0, 2, 1, 213) := by decide +kernel
theorem jf11_158 : jFL.find? (fun q => q.1 == 11 && q.2.1 == 158) = some (11, 158, 0, 3, 1, 215) := by decide +kernel
theorem jf11_161 : jFL.find? (fun q => q.1 == 11 && q.2.1 == 161) = some (11, 161, 0, 4, 1, 220) := by decide +kernel
theorem jf11_164 : jFL.find? (fun q => q.1 == 11 && q.2.1 == 164) = some (11, 164, 9, 0, 1, 263) := by decide +kernel
theorem jf11_178 : jFL.find? (fun q => q.1 == 11 && q.2.1 == 178) = some (11, 178, 3, 2, 1, 317) := by decide +kernel
theorem jf11_181 : jFL.find? (fun q => q.1 == 11 && q.2.1 == 181) = some (11, 181, 0, 0, 1, 207) := by decide +kernel
theorem jf11_247 : jFL.find? (fun q => q.1 == 11 && q.2.1 == 247) = some (11, 247, 2, 3, 1, 428) := by decide +kernel
theorem jf11_250 : jFL.find? (fun q => q.1 == 11 && q.2.1 == 250) = some (11, 250, 2, 4, 1, 430) := by decide +kernel
theorem jf12_7 : jFL.find? (fun q => q.1 == 12 && q.2.1 == 7) = some (12, 7, 12, 0, 0, 1145) := by decide +kernel
theorem jf12_13 : jFL.find? (fun q => q.1 == 12 && q.2.1 == 13) = some (12, 13, 12, 3, 0, 1148) := by decide +kernel
theorem jf12_17 : jFL.find? (fun q => q.1 == 12 && q.2.1 == 17) = some (12, 17, 12, 4, 0, 1149) := by decide +kernel
theorem jf12_20 : jFL.find? (fun q => q.1 == 12 && q.2.1 == 20) = some (12, 20, 12, 5, 0, 1150) := by decide +kernel
theorem jf12_23 : jFL.find? (fun q => q.1 == 12 && q.2.1 == 23) = some (12, 23, 12, 6, 0, 1151) := by decide +kernel
theorem jf12_26 : jFL.find? (fun q => q.1 == 12 && q.2.1 == 26) = some (12, 26, 12, 7, 0, 1152) := by decide +kernel
theorem jf12_29 : jFL.find? (fun q => q.1 == 12 && q.2.1 == 29) = some (12, 29, 12, 15, 0, 1160) := by decide +kernel
theorem jf12_32 : jFL.find? (fun q => q.1 == 12 && q.2.1 == 32) = some (12, 32, 12, 17, 0, 1162) := by decide +kernel
theorem jf12_36 : jFL.find? (fun q => q.1 == 12 && q.2.1 == 36) = some (12, 36, 12, 19, 0, 1164) := by decide +kernel
theorem jf12_39 : jFL.find? (fun q => q.1 == 12 && q.2.1 == 39) = some (12, 39, 12, 20, 0, 1165) := by decide +kernel
theorem jf12_42 : jFL.find? (fun q => q.1 == 12 && q.2.1 == 42) = some (12, 42, 12, 21, 0, 1166) := by decide +kernel
theorem jf12_46 : jFL.find? (fun q => q.1 == 12 && q.2.1 == 46) = some (12, 46, 12, 23, 0, 1168) := by decide +kernel
theorem jf12_49 : jFL.find? (fun q => q.1 == 12 && q.2.1 == 49) = some (12, 49, 12, 26, 0, 1171) := by decide +kernel
theorem jf12_52 : jFL.find? (fun q => q.1 == 12 && q.2.1 == 52) = some (12, 52, 12, 27, 0, 1172) := by decide +kernel
theorem jf12_55 : jFL.find? (fun q => q.1 == 12 && q.2.1 == 55) = some (12, 55, 12, 29, 0, 1174) := by decide +kernel
theorem jf12_58 : jFL.find? (fun q => q.1 == 12 && q.2.1 == 58) = some (12, 58, 12, 30, 0, 1175) := by decide +kernel
theorem jf12_61 : jFL.find? (fun q => q.1 == 12 && q.2.1 == 61) = some (12, 61, 12, 31, 0, 1176) := by decide +kernel
theorem jf12_64 : jFL.find? (fun q => q.1 == 12 && q.2.1 == 64) = some (12, 64, 12, 33, 0, 1178) := by decide +kernel
theorem jf12_67 : jFL.find? (fun q => q.1 == 12 && q.2.1 == 67) = some (12, 67, 12, 34, 0, 1179) := by decide +kernel
theorem jf12_70 : jFL.find? (fun q => q.1 == 12 && q.2.1 == 70) = some (12, 70, 12, 35, 0, 1180) := by decide +kernel
theorem jf12_73 : jFL.find? (fun q => q.1 == 12 && q.2.1 == 73) = some (12, 73, 12, 36, 0, 1181) := by decide +kernel
theorem jf12_77 : jFL.find? (fun q => q.1 == 12 && q.2.1 == 77) = some (12, 77, 12, 37, 0, 1182) := by decide +kernel
theorem jf12_80 : jFL.find? (fun q => q.1 == 12 && q.2.1 == 80) = some (12, 80, 12, 39, 0, 1184) := by decide +kernel
theorem jf12_83 : jFL.find? (fun q => q.1 == 12 && q.2.1 == 83) = some (12, 83, 12, 40, 0, 1185) := by decide +kernel
theorem jf12_86 : jFL.find? (fun q => q.1 == 12 && q.2.1 == 86) = some (12, 86, 12, 41, 0, 1186) := by decide +kernel
theorem jf12_89 : jFL.find? (fun q => q.1 == 12 && q.2.1 == 89) = some (12, 89, 12, 42, 0, 1187) := by decide +kernel
theorem jf12_92 : jFL.find? (fun q => q.1 == 12 && q.2.1 == 92) = some (12, 92, 12, 1, 0, 1146) := by decide +kernel
theorem jf12_99 : jFL.find? (fun q => q.1 == 12 && q.2.1 == 99) = some (12, 99, 12, 9, 0, 1154) := by decide +kernel
theorem jf12_102 : jFL.find? (fun q => q.1 == 12 && q.2.1 == 102) = some (12, 102, 12, 8, 0, 1153) := by decide +kernel
theorem jf12_127 : jFL.find? (fun q => q.1 == 12 && q.2.1 == 127) = some (12, 127, 12, 10, 0, 1155) := by decide +kernel
theorem jf12_158 : jFL.find? (fun q => q.1 == 12 && q.2.1 == 158) = some (12, 158, 12, 11, 0, 1156) := by decide +kernel
theorem jf12_161 : jFL.find? (fun q => q.1 == 12 && q.2.1 == 161) = some (12, 161, 12, 12, 0, 1157) := by decide +kernel
theorem jf12_164 : jFL.find? (fun q => q.1 == 12 && q.2.1 == 164) = some (12, 164, 12, 13, 0, 1158) := by decide +kernel
theorem jf12_167 : jFL.find? (fun q => q.1 == 12 && q.2.1 == 167) = some (12, 167, 12, 16, 0, 1161) := by decide +kernel
theorem jf12_258 : jFL.find? (fun q => q.1 == 12 && q.2.1 == 258) = some (12, 258, 12, 14, 0, 1159) := by decide +kernel
theorem jf12_270 : jFL.find? (fun q => q.1 == 12 && q.2.1 == 270) = some (12, 270, 12, 2, 0, 1147) := by decide +kernel
theorem jf12_279 : jFL.find? (fun q => q.1 == 12 && q.2.1 == 279) = some (12, 279, 12, 28, 0, 1173) := by decide +kernel
theorem jf12_282 : jFL.find? (fun q => q.1 == 12 && q.2.1 == 282) = some (12, 282, 12, 18, 0, 1163) := by decide +kernel
theorem jf12_342 : jFL.find? (fun q => q.1 == 12 && q.2.1 == 342) = some (12, 342, 12, 25, 0, 1170) := by decide +kernel
theorem jf12_345 : jFL.find? (fun q => q.1 == 12 && q.2.1 == 345) = some (12, 345, 12, 24, 0, 1169) := by decide +kernel
theorem jf12_386 : jFL.find? (fun q => q.1 == 12 && q.2.1 == 386) = some (12, 386, 12, 32, 0, 1177) := by decide +kernel
theorem jf12_443 : jFL.find? (fun q => q.1 == 12 && q.2.1 == 443) = some (12, 443, 12, 22, 0, 1167) := by decide +kernel
theorem jf12_446 : jFL.find? (fun q => q.1 == 12 && q.2.1 == 446) = some (12, 446, 12, 38, 0, 1183) := by decide +kernel
theorem jkj2_129 : jKJ.find? (fun q => q.1 == 2 && q.2.1 == 129) = some (2, 129, 1103515245, 948) := by decide +kernel
theorem jkj2_131 : jKJ.find? (fun q => q.1 == 2 && q.2.1 == 131) = some (2, 131, 12345, 949) := by decide +kernel
theorem jkj2_133 : jKJ.find? (fun q => q.1 == 2 && q.2.1 == 133) = some (2, 133, 2147483648, 950) := by decide +kernel
theorem jkj2_135 : jKJ.find? (fun q => q.1 == 2 && q.2.1 == 135) = some (2, 135, 65536, 954) := by decide +kernel
theorem jkj12_134 : jKJ.find? (fun q => q.1 == 12 && q.2.1 == 134) = some (12, 134, 495589487988, 1319) := by decide +kernel
theorem jkj12_136 : jKJ.find? (fun q => q.1 == 12 && q.2.1 == 136) = some (12, 136, 1802071652, 1318) := by decide +kernel
theorem jkj12_138 : jKJ.find? (fun q => q.1 == 12 && q.2.1 == 138) = some (12, 138, 1751216740, 1398) := by decide +kernel
theorem jkj12_140 : jKJ.find? (fun q => q.1 == 12 && q.2.1 == 140) = some (12, 140, 495723310188, 1399) := by decide +kernel
theorem jkj12_142 : jKJ.find? (fun q => q.1 == 12 && q.2.1 == 142) = some (12, 142, 422540765029, 1400) := by decide +kernel
theorem jkj12_144 : jKJ.find? (fun q => q.1 == 12 && q.2.1 == 144) = some (12, 144, 108170435847539, 1401) := by decide +kernel
theorem jkj12_146 : jKJ.find? (fun q => q.1 == 12 && q.2.1 == 146) = some (12, 146, 122545758368371, 1402) := by decide +kernel
theorem jkj12_148 : jKJ.find? (fun q => q.1 == 12 && q.2.1 == 148) = some (12, 148, 1667329133, 1317) := by decide +kernel
theorem jkj12_150 : jKJ.find? (fun q => q.1 == 12 && q.2.1 == 150) = some (12, 150, 1852143732, 1403) := by decide +kernel
theorem jkj12_152 : jKJ.find? (fun q => q.1 == 12 && q.2.1 == 152) = some (12, 152, 123563851081060, 1404) := by decide +kernel
theorem jkj12_154 : jKJ.find? (fun q => q.1 == 12 && q.2.1 == 154) = some (12, 154, 500135716196, 1405) := by decide +kernel
theorem jkj12_156 : jKJ.find? (fun q => q.1 == 12 && q.2.1 == 156) = some (12, 156, 6578553, 1406) := by decide +kernel
theorem jkj12_198 : jKJ.find? (fun q => q.1 == 12 && q.2.1 == 198) = some (12, 198, 7237492, 1420) := by decide +kernel
theorem jkj12_218 : jKJ.find? (fun q => q.1 == 12 && q.2.1 == 218) = some (12, 218, 6385252, 1444) := by decide +kernel
theorem jkj12_220 : jKJ.find? (fun q => q.1 == 12 && q.2.1 == 220) = some (12, 220, 28530, 1445) := by decide +kernel
theorem jkj12_222 : jKJ.find? (fun q => q.1 == 12 && q.2.1 == 222) = some (12, 222, 26982, 1407) := by decide +kernel
theorem jkj12_234 : jKJ.find? (fun q => q.1 == 12 && q.2.1 == 234) = some (12, 234, 1667329392, 1308) := by decide +kernel
theorem jkj12_251 : jKJ.find? (fun q => q.1 == 12 && q.2.1 == 251) = some (12, 251, 6513006, 1320) := by decide +kernel
theorem jkj12_256 : jKJ.find? (fun q => q.1 == 12 && q.2.1 == 256) = some (12, 256, 7631481, 1321) := by decide +kernel
theorem jkj12_367 : jKJ.find? (fun q => q.1 == 12 && q.2.1 == 367) = some (12, 367, 100, 1587) := by decide +kernel
theorem jkj12_369 : jKJ.find? (fun q => q.1 == 12 && q.2.1 == 369) = some (12, 369, 2, 1588) := by decide +kernel
theorem jkj12_395 : jKJ.find? (fun q => q.1 == 12 && q.2.1 == 395) = some (12, 395, (-1), 1625) := by decide +kernel
theorem jkj12_397 : jKJ.find? (fun q => q.1 == 12 && q.2.1 == 397) = some (12, 397, 5, 1626) := by decide +kernel
theorem jkj12_402 : jKJ.find? (fun q => q.1 == 12 && q.2.1 == 402) = some (12, 402, 4, 1647) := by decide +kernel
theorem jkj12_413 : jKJ.find? (fun q => q.1 == 12 && q.2.1 == 413) = some (12, 413, 60, 1663) := by decide +kernel
theorem jkj12_415 : jKJ.find? (fun q => q.1 == 12 && q.2.1 == 415) = some (12, 415, 30, 1672) := by decide +kernel
theorem jkj12_417 : jKJ.find? (fun q => q.1 == 12 && q.2.1 == 417) = some (12, 417, 20, 1677) := by decide +kernel
theorem jkj12_426 : jKJ.find? (fun q => q.1 == 12 && q.2.1 == 426) = some (12, 426, 9999, 1690) := by decide +kernel
theorem jkj12_450 : jKJ.find? (fun q => q.1 == 12 && q.2.1 == 450) = some (12, 450, 1103515245, 1744) := by decide +kernel
theorem jkj12_452 : jKJ.find? (fun q => q.1 == 12 && q.2.1 == 452) = some (12, 452, 12345, 1745) := by decide +kernel
theorem jkj12_454 : jKJ.find? (fun q => q.1 == 12 && q.2.1 == 454) = some (12, 454, 2147483648, 1746) := by decide +kernel
theorem jkj12_456 : jKJ.find? (fun q => q.1 == 12 && q.2.1 == 456) = some (12, 456, 65536, 1747) := by decide +kernel
theorem jkj12_458 : jKJ.find? (fun q => q.1 == 12 && q.2.1 == 458) = some (12, 458, 10, 1735) := by decide +kernel
theorem jkj12_466 : jKJ.find? (fun q => q.1 == 12 && q.2.1 == 466) = some (12, 466, 3, 1756) := by decide +kernel
theorem jki12_178 : jKI.find? (fun q => q.1 == 12 && q.2.1 == 178) = some (12, 178, 99999, 1385) := by decide +kernel
theorem jki14_264 : jKI.find? (fun q => q.1 == 14 && q.2.1 == 264) = some (14, 264, 65536, 897) := by decide +kernel
theorem jki14_265 : jKI.find? (fun q => q.1 == 14 && q.2.1 == 265) = some (14, 265, 1431655765, 733) := by decide +kernel
theorem jki14_266 : jKI.find? (fun q => q.1 == 14 && q.2.1 == 266) = some (14, 266, 858993459, 734) := by decide +kernel
theorem jki14_267 : jKI.find? (fun q => q.1 == 14 && q.2.1 == 267) = some (14, 267, 252645135, 735) := by decide +kernel
theorem jcn0_41 : jOL.any (fun q => q.1 == 0 && q.2.1 == 41) = false := by decide +kernel
theorem jcV0_41 : (jCL.find? (fun q => q.1 == 0 && (q.2.1 == 41 && q.2.2.1 == 0))).map (fun q => q.2.2.2.1) = some 5 := by decide +kernel
theorem jcn0_45 : jOL.any (fun q => q.1 == 0 && q.2.1 == 45) = false := by decide +kernel
theorem jcV0_45 : (jCL.find? (fun q => q.1 == 0 && (q.2.1 == 45 && q.2.2.1 == 0))).map (fun q => q.2.2.2.1) = some 8 := by decide +kernel
theorem jcn0_48 : jOL.any (fun q => q.1 == 0 && q.2.1 == 48) = false := by decide +kernel
theorem jcV0_48 : (jCL.find? (fun q => q.1 == 0 && (q.2.1 == 48 && q.2.2.1 == 0))).map (fun q => q.2.2.2.1) = some 98 := by decide +kernel
theorem jcn0_55 : jOL.any (fun q => q.1 == 0 && q.2.1 == 55) = false := by decide +kernel
theorem jcV0_55 : (jCL.find? (fun q => q.1 == 0 && (q.2.1 == 55 && q.2.2.1 == 0))).map (fun q => q.2.2.2.1) = some 100 := by decide +kernel
theorem jcn0_59 : jOL.any (fun q => q.1 == 0 && q.2.1 == 59) = false := by decide +kernel
theorem jcV0_59 : (jCL.find? (fun q => q.1 == 0 && (q.2.1 == 59 && q.2.2.1 == 0))).map (fun q => q.2.2.2.1) = some 101 := by decide +kernel
theorem jcn0_62 : jOL.any (fun q => q.1 == 0 && q.2.1 == 62) = false := by decide +kernel
theorem jcV0_62 : (jCL.find? (fun q => q.1 == 0 && (q.2.1 == 62 && q.2.2.1 == 0))).map (fun q => q.2.2.2.1) = some 2 := by decide +kernel
theorem jcn0_65 : jOL.any (fun q => q.1 == 0 && q.2.1 == 65) = false := by decide +kernel
theorem jcV0_65 : (jCL.find? (fun q => q.1 == 0 && (q.2.1 == 65 && q.2.2.1 == 0))).map (fun q => q.2.2.2.1) = some 99 := by decide +kernel
theorem jcn0_68 : jOL.any (fun q => q.1 == 0 && q.2.1 == 68) = false := by decide +kernel
theorem jcV0_68 : (jCL.find? (fun q => q.1 == 0 && (q.2.1 == 68 && q.2.2.1 == 0))).map (fun q => q.2.2.2.1) = some 3 := by decide +kernel
theorem jcn0_75 : jOL.any (fun q => q.1 == 0 && q.2.1 == 75) = false := by decide +kernel
theorem jcV0_75 : (jCL.find? (fun q => q.1 == 0 && (q.2.1 == 75 && q.2.2.1 == 0))).map (fun q => q.2.2.2.1) = some 102 := by decide +kernel
theorem jcn0_79 : jOL.any (fun q => q.1 == 0 && q.2.1 == 79) = false := by decide +kernel
theorem jcV0_79 : (jCL.find? (fun q => q.1 == 0 && (q.2.1 == 79 && q.2.2.1 == 0))).map (fun q => q.2.2.2.1) = some 4 := by decide +kernel
theorem jcn1_11 : jOL.any (fun q => q.1 == 1 && q.2.1 == 11) = false := by decide +kernel
theorem jcI1_11 : (jCL.find? (fun q => q.1 == 1 && (q.2.1 == 11 && (q.2.2.1 == 2 || q.2.2.1 == 3)))).map (fun q => q.2.2.2.1) = some 81 := by decide +kernel
theorem jcn1_29 : jOL.any (fun q => q.1 == 1 && q.2.1 == 29) = false := by decide +kernel
theorem jcI1_29 : (jCL.find? (fun q => q.1 == 1 && (q.2.1 == 29 && (q.2.2.1 == 2 || q.2.2.1 == 3)))).map (fun q => q.2.2.2.1) = some 0 := by decide +kernel
theorem jcn1_48 : jOL.any (fun q => q.1 == 1 && q.2.1 == 48) = false := by decide +kernel
theorem jcV1_48 : (jCL.find? (fun q => q.1 == 1 && (q.2.1 == 48 && q.2.2.1 == 0))).map (fun q => q.2.2.2.1) = some 88 := by decide +kernel
theorem jcn1_52 : jOL.any (fun q => q.1 == 1 && q.2.1 == 52) = false := by decide +kernel
theorem jcV1_52 : (jCL.find? (fun q => q.1 == 1 && (q.2.1 == 52 && q.2.2.1 == 0))).map (fun q => q.2.2.2.1) = some 11 := by decide +kernel
theorem jcn1_56 : jOL.any (fun q => q.1 == 1 && q.2.1 == 56) = false := by decide +kernel
theorem jcV1_56 : (jCL.find? (fun q => q.1 == 1 && (q.2.1 == 56 && q.2.2.1 == 0))).map (fun q => q.2.2.2.1) = some 82 := by decide +kernel
theorem jcn1_64 : jOL.any (fun q => q.1 == 1 && q.2.1 == 64) = false := by decide +kernel
theorem jcV1_64 : (jCL.find? (fun q => q.1 == 1 && (q.2.1 == 64 && q.2.2.1 == 0))).map (fun q => q.2.2.2.1) = some 6 := by decide +kernel
theorem jcn1_71 : jOL.any (fun q => q.1 == 1 && q.2.1 == 71) = false := by decide +kernel
theorem jcV1_71 : (jCL.find? (fun q => q.1 == 1 && (q.2.1 == 71 && q.2.2.1 == 0))).map (fun q => q.2.2.2.1) = some 13 := by decide +kernel
theorem jcn1_74 : jOL.any (fun q => q.1 == 1 && q.2.1 == 74) = false := by decide +kernel
theorem jcV1_74 : (jCL.find? (fun q => q.1 == 1 && (q.2.1 == 74 && q.2.2.1 == 0))).map (fun q => q.2.2.2.1) = some 15 := by decide +kernel
theorem jcn1_78 : jOL.any (fun q => q.1 == 1 && q.2.1 == 78) = false := by decide +kernel
theorem jcV1_78 : (jCL.find? (fun q => q.1 == 1 && (q.2.1 == 78 && q.2.2.1 == 0))).map (fun q => q.2.2.2.1) = some 91 := by decide +kernel
theorem jcn1_82 : jOL.any (fun q => q.1 == 1 && q.2.1 == 82) = false := by decide +kernel
theorem jcV1_82 : (jCL.find? (fun q => q.1 == 1 && (q.2.1 == 82 && q.2.2.1 == 0))).map (fun q => q.2.2.2.1) = some 12 := by decide +kernel
theorem jcn1_89 : jOL.any (fun q => q.1 == 1 && q.2.1 == 89) = false := by decide +kernel
theorem jcV1_89 : (jCL.find? (fun q => q.1 == 1 && (q.2.1 == 89 && q.2.2.1 == 0))).map (fun q => q.2.2.2.1) = some 14 := by decide +kernel
theorem jcn1_93 : jOL.any (fun q => q.1 == 1 && q.2.1 == 93) = false := by decide +kernel
theorem jcV1_93 : (jCL.find? (fun q => q.1 == 1 && (q.2.1 == 93 && q.2.2.1 == 0))).map (fun q => q.2.2.2.1) = some 89 := by decide +kernel
theorem jcn1_101 : jOL.any (fun q => q.1 == 1 && q.2.1 == 101) = false := by decide +kernel
theorem jcV1_101 : (jCL.find? (fun q => q.1 == 1 && (q.2.1 == 101 && q.2.2.1 == 0))).map (fun q => q.2.2.2.1) = some 16 := by decide +kernel
theorem jcn1_105 : jOL.any (fun q => q.1 == 1 && q.2.1 == 105) = false := by decide +kernel
theorem jcV1_105 : (jCL.find? (fun q => q.1 == 1 && (q.2.1 == 105 && q.2.2.1 == 0))).map (fun q => q.2.2.2.1) = some 17 := by decide +kernel
theorem jcn1_108 : jOL.any (fun q => q.1 == 1 && q.2.1 == 108) = false := by decide +kernel
theorem jcV1_108 : (jCL.find? (fun q => q.1 == 1 && (q.2.1 == 108 && q.2.2.1 == 0))).map (fun q => q.2.2.2.1) = some 68 := by decide +kernel
theorem jcn1_112 : jOL.any (fun q => q.1 == 1 && q.2.1 == 112) = false := by decide +kernel
theorem jcV1_112 : (jCL.find? (fun q => q.1 == 1 && (q.2.1 == 112 && q.2.2.1 == 0))).map (fun q => q.2.2.2.1) = some 86 := by decide +kernel
theorem jcn1_121 : jOL.any (fun q => q.1 == 1 && q.2.1 == 121) = false := by decide +kernel
theorem jcV1_121 : (jCL.find? (fun q => q.1 == 1 && (q.2.1 == 121 && q.2.2.1 == 0))).map (fun q => q.2.2.2.1) = some 84 := by decide +kernel
theorem jcn1_124 : jOL.any (fun q => q.1 == 1 && q.2.1 == 124) = false := by decide +kernel
theorem jcV1_124 : (jCL.find? (fun q => q.1 == 1 && (q.2.1 == 124 && q.2.2.1 == 0))).map (fun q => q.2.2.2.1) = some 90 := by decide +kernel
theorem jcn2_11 : jOL.any (fun q => q.1 == 2 && q.2.1 == 11) = false := by decide +kernel
theorem jcI2_11 : (jCL.find? (fun q => q.1 == 2 && (q.2.1 == 11 && (q.2.2.1 == 2 || q.2.2.1 == 3)))).map (fun q => q.2.2.2.1) = some 9 := by decide +kernel
theorem jcn2_43 : jOL.any (fun q => q.1 == 2 && q.2.1 == 43) = false := by decide +kernel
theorem jcV2_43 : (jCL.find? (fun q => q.1 == 2 && (q.2.1 == 43 && q.2.2.1 == 0))).map (fun q => q.2.2.2.1) = some 10 := by decide +kernel
theorem jcn2_47 : jOL.any (fun q => q.1 == 2 && q.2.1 == 47) = false := by decide +kernel
theorem jcV2_47 : (jCL.find? (fun q => q.1 == 2 && (q.2.1 == 47 && q.2.2.1 == 0))).map (fun q => q.2.2.2.1) = some 22 := by decide +kernel
theorem jcn2_51 : jOL.any (fun q => q.1 == 2 && q.2.1 == 51) = false := by decide +kernel
theorem jcV2_51 : (jCL.find? (fun q => q.1 == 2 && (q.2.1 == 51 && q.2.2.1 == 0))).map (fun q => q.2.2.2.1) = some 12 := by decide +kernel
theorem jcn2_58 : jOL.any (fun q => q.1 == 2 && q.2.1 == 58) = false := by decide +kernel
theorem jcV2_58 : (jCL.find? (fun q => q.1 == 2 && (q.2.1 == 58 && q.2.2.1 == 0))).map (fun q => q.2.2.2.1) = some 88 := by decide +kernel
theorem jcn2_64 : jOL.any (fun q => q.1 == 2 && q.2.1 == 64) = false := by decide +kernel
theorem jcV2_64 : (jCL.find? (fun q => q.1 == 2 && (q.2.1 == 64 && q.2.2.1 == 0))).map (fun q => q.2.2.2.1) = some 18 := by decide +kernel
theorem jcn2_79 : jOL.any (fun q => q.1 == 2 && q.2.1 == 79) = false := by decide +kernel
theorem jcS2_79 : (jCL.find? (fun q => q.1 == 2 && (q.2.1 == 79 && q.2.2.1 == 1))).map (fun q => q.2.2.2.1) = some 257 := by decide +kernel
theorem jcn2_91 : jOL.any (fun q => q.1 == 2 && q.2.1 == 91) = false := by decide +kernel
theorem jcS2_91 : (jCL.find? (fun q => q.1 == 2 && (q.2.1 == 91 && q.2.2.1 == 1))).map (fun q => q.2.2.2.1) = some 256 := by decide +kernel
theorem jcn2_94 : jOL.any (fun q => q.1 == 2 && q.2.1 == 94) = false := by decide +kernel
theorem jcV2_94 : (jCL.find? (fun q => q.1 == 2 && (q.2.1 == 94 && q.2.2.1 == 0))).map (fun q => q.2.2.2.1) = some 28 := by decide +kernel
theorem jcn2_101 : jOL.any (fun q => q.1 == 2 && q.2.1 == 101) = false := by decide +kernel
theorem jcV2_101 : (jCL.find? (fun q => q.1 == 2 && (q.2.1 == 101 && q.2.2.1 == 0))).map (fun q => q.2.2.2.1) = some 30 := by decide +kernel
theorem jcn2_104 : jOL.any (fun q => q.1 == 2 && q.2.1 == 104) = false := by decide +kernel
theorem jcV2_104 : (jCL.find? (fun q => q.1 == 2 && (q.2.1 == 104 && q.2.2.1 == 0))).map (fun q => q.2.2.2.1) = some 31 := by decide +kernel
theorem jcn2_108 : jOL.any (fun q => q.1 == 2 && q.2.1 == 108) = false := by decide +kernel
theorem jcV2_108 : (jCL.find? (fun q => q.1 == 2 && (q.2.1 == 108 && q.2.2.1 == 0))).map (fun q => q.2.2.2.1) = some 84 := by decide +kernel
theorem jcn2_115 : jOL.any (fun q => q.1 == 2 && q.2.1 == 115) = false := by decide +kernel
theorem jcS2_115 : (jCL.find? (fun q => q.1 == 2 && (q.2.1 == 115 && q.2.2.1 == 1))).map (fun q => q.2.2.2.1) = some 33 := by decide +kernel
theorem jcn2_122 : jOL.any (fun q => q.1 == 2 && q.2.1 == 122) = false := by decide +kernel
theorem jcS2_122 : (jCL.find? (fun q => q.1 == 2 && (q.2.1 == 122 && q.2.2.1 == 1))).map (fun q => q.2.2.2.1) = some 34 := by decide +kernel
theorem jcn2_126 : jOL.any (fun q => q.1 == 2 && q.2.1 == 126) = false := by decide +kernel
theorem jcV2_126 : (jCL.find? (fun q => q.1 == 2 && (q.2.1 == 126 && q.2.2.1 == 0))).map (fun q => q.2.2.2.1) = some 85 := by decide +kernel
theorem jcn2_137 : jOL.any (fun q => q.1 == 2 && q.2.1 == 137) = false := by decide +kernel
theorem jcV2_137 : (jCL.find? (fun q => q.1 == 2 && (q.2.1 == 137 && q.2.2.1 == 0))).map (fun q => q.2.2.2.1) = some 36 := by decide +kernel
theorem jcn2_141 : jOL.any (fun q => q.1 == 2 && q.2.1 == 141) = false := by decide +kernel
theorem jcV2_141 : (jCL.find? (fun q => q.1 == 2 && (q.2.1 == 141 && q.2.2.1 == 0))).map (fun q => q.2.2.2.1) = some 19 := by decide +kernel
theorem jcn2_149 : jOL.any (fun q => q.1 == 2 && q.2.1 == 149) = false := by decide +kernel
theorem jcV2_149 : (jCL.find? (fun q => q.1 == 2 && (q.2.1 == 149 && q.2.2.1 == 0))).map (fun q => q.2.2.2.1) = some 44 := by decide +kernel
theorem jcn2_154 : jOL.any (fun q => q.1 == 2 && q.2.1 == 154) = false := by decide +kernel
theorem jcV2_154 : (jCL.find? (fun q => q.1 == 2 && (q.2.1 == 154 && q.2.2.1 == 0))).map (fun q => q.2.2.2.1) = some 45 := by decide +kernel
theorem jcn2_164 : jOL.any (fun q => q.1 == 2 && q.2.1 == 164) = false := by decide +kernel
theorem jcV2_164 : (jCL.find? (fun q => q.1 == 2 && (q.2.1 == 164 && q.2.2.1 == 0))).map (fun q => q.2.2.2.1) = some 38 := by decide +kernel
theorem jcn3_11 : jOL.any (fun q => q.1 == 3 && q.2.1 == 11) = false := by decide +kernel
theorem jcI3_11 : (jCL.find? (fun q => q.1 == 3 && (q.2.1 == 11 && (q.2.2.1 == 2 || q.2.2.1 == 3)))).map (fun q => q.2.2.2.1) = some 0 := by decide +kernel
theorem jcn3_27 : jOL.any (fun q => q.1 == 3 && q.2.1 == 27) = false := by decide +kernel
theorem jcI3_27 : (jCL.find? (fun q => q.1 == 3 && (q.2.1 == 27 && (q.2.2.1 == 2 || q.2.2.1 == 3)))).map (fun q => q.2.2.2.1) = some 81 := by decide +kernel
theorem jcn3_34 : jOL.any (fun q => q.1 == 3 && q.2.1 == 34) = false := by decide +kernel
theorem jcI3_34 : (jCL.find? (fun q => q.1 == 3 && (q.2.1 == 34 && (q.2.2.1 == 2 || q.2.2.1 == 3)))).map (fun q => q.2.2.2.1) = some 41 := by decide +kernel
theorem jcn3_39 : jOL.any (fun q => q.1 == 3 && q.2.1 == 39) = false := by decide +kernel
theorem jcV3_39 : (jCL.find? (fun q => q.1 == 3 && (q.2.1 == 39 && q.2.2.1 == 0))).map (fun q => q.2.2.2.1) = some 88 := by decide +kernel
theorem jcn3_43 : jOL.any (fun q => q.1 == 3 && q.2.1 == 43) = false := by decide +kernel
theorem jcV3_43 : (jCL.find? (fun q => q.1 == 3 && (q.2.1 == 43 && q.2.2.1 == 0))).map (fun q => q.2.2.2.1) = some 46 := by decide +kernel
theorem jcn4_28 : jOL.any (fun q => q.1 == 4 && q.2.1 == 28) = false := by decide +kernel
theorem jcV4_28 : (jCL.find? (fun q => q.1 == 4 && (q.2.1 == 28 && q.2.2.1 == 0))).map (fun q => q.2.2.2.1) = some 42 := by decide +kernel
theorem jcn4_44 : jOL.any (fun q => q.1 == 4 && q.2.1 == 44) = false := by decide +kernel
theorem jcV4_44 : (jCL.find? (fun q => q.1 == 4 && (q.2.1 == 44 && q.2.2.1 == 0))).map (fun q => q.2.2.2.1) = some 89 := by decide +kernel
theorem jcn5_22 : jOL.any (fun q => q.1 == 5 && q.2.1 == 22) = false := by decide +kernel
theorem jcI5_22 : (jCL.find? (fun q => q.1 == 5 && (q.2.1 == 22 && (q.2.2.1 == 2 || q.2.2.1 == 3)))).map (fun q => q.2.2.2.1) = some 81 := by decide +kernel
theorem jcn5_23 : jOL.any (fun q => q.1 == 5 && q.2.1 == 23) = false := by decide +kernel
theorem jcV5_23 : (jCL.find? (fun q => q.1 == 5 && (q.2.1 == 23 && q.2.2.1 == 0))).map (fun q => q.2.2.2.1) = some 88 := by decide +kernel
theorem jcn6_20 : jOL.any (fun q => q.1 == 6 && q.2.1 == 20) = false := by decide +kernel
theorem jcI6_20 : (jCL.find? (fun q => q.1 == 6 && (q.2.1 == 20 && (q.2.2.1 == 2 || q.2.2.1 == 3)))).map (fun q => q.2.2.2.1) = some 81 := by decide +kernel
theorem jcn6_43 : jOL.any (fun q => q.1 == 6 && q.2.1 == 43) = false := by decide +kernel
theorem jcV6_43 : (jCL.find? (fun q => q.1 == 6 && (q.2.1 == 43 && q.2.2.1 == 0))).map (fun q => q.2.2.2.1) = some 83 := by decide +kernel
theorem jcn6_46 : jOL.any (fun q => q.1 == 6 && q.2.1 == 46) = false := by decide +kernel
theorem jcV6_46 : (jCL.find? (fun q => q.1 == 6 && (q.2.1 == 46 && q.2.2.1 == 0))).map (fun q => q.2.2.2.1) = some 52 := by decide +kernel
theorem jcn6_50 : jOL.any (fun q => q.1 == 6 && q.2.1 == 50) = false := by decide +kernel
theorem jcV6_50 : (jCL.find? (fun q => q.1 == 6 && (q.2.1 == 50 && q.2.2.1 == 0))).map (fun q => q.2.2.2.1) = some 53 := by decide +kernel
theorem jcn6_54 : jOL.any (fun q => q.1 == 6 && q.2.1 == 54) = false := by decide +kernel
theorem jcS6_54 : (jCL.find? (fun q => q.1 == 6 && (q.2.1 == 54 && q.2.2.1 == 1))).map (fun q => q.2.2.2.1) = some 256 := by decide +kernel
theorem jcn6_59 : jOL.any (fun q => q.1 == 6 && q.2.1 == 59) = false := by decide +kernel
theorem jcS6_59 : (jCL.find? (fun q => q.1 == 6 && (q.2.1 == 59 && q.2.2.1 == 1))).map (fun q => q.2.2.2.1) = some 258 := by decide +kernel
theorem jcn6_65 : jOL.any (fun q => q.1 == 6 && q.2.1 == 65) = false := by decide +kernel
theorem jcV6_65 : (jCL.find? (fun q => q.1 == 6 && (q.2.1 == 65 && q.2.2.1 == 0))).map (fun q => q.2.2.2.1) = some 56 := by decide +kernel
theorem jcn6_74 : jOL.any (fun q => q.1 == 6 && q.2.1 == 74) = false := by decide +kernel
theorem jcV6_74 : (jCL.find? (fun q => q.1 == 6 && (q.2.1 == 74 && q.2.2.1 == 0))).map (fun q => q.2.2.2.1) = some 55 := by decide +kernel
theorem jcn6_77 : jOL.any (fun q => q.1 == 6 && q.2.1 == 77) = false := by decide +kernel
theorem jcV6_77 : (jCL.find? (fun q => q.1 == 6 && (q.2.1 == 77 && q.2.2.1 == 0))).map (fun q => q.2.2.2.1) = some 58 := by decide +kernel
theorem jcn6_80 : jOL.any (fun q => q.1 == 6 && q.2.1 == 80) = false := by decide +kernel
theorem jcS6_80 : (jCL.find? (fun q => q.1 == 6 && (q.2.1 == 80 && q.2.2.1 == 1))).map (fun q => q.2.2.2.1) = some 60 := by decide +kernel
theorem jcn6_84 : jOL.any (fun q => q.1 == 6 && q.2.1 == 84) = false := by decide +kernel
theorem jcV6_84 : (jCL.find? (fun q => q.1 == 6 && (q.2.1 == 84 && q.2.2.1 == 0))).map (fun q => q.2.2.2.1) = some 86 := by decide +kernel
theorem jcn6_90 : jOL.any (fun q => q.1 == 6 && q.2.1 == 90) = false := by decide +kernel
theorem jcV6_90 : (jCL.find? (fun q => q.1 == 6 && (q.2.1 == 90 && q.2.2.1 == 0))).map (fun q => q.2.2.2.1) = some 85 := by decide +kernel
theorem jcn6_94 : jOL.any (fun q => q.1 == 6 && q.2.1 == 94) = false := by decide +kernel
theorem jcV6_94 : (jCL.find? (fun q => q.1 == 6 && (q.2.1 == 94 && q.2.2.1 == 0))).map (fun q => q.2.2.2.1) = some 84 := by decide +kernel
theorem jcn6_100 : jOL.any (fun q => q.1 == 6 && q.2.1 == 100) = false := by decide +kernel
theorem jcV6_100 : (jCL.find? (fun q => q.1 == 6 && (q.2.1 == 100 && q.2.2.1 == 0))).map (fun q => q.2.2.2.1) = some 6 := by decide +kernel
theorem jcn6_109 : jOL.any (fun q => q.1 == 6 && q.2.1 == 109) = false := by decide +kernel
theorem jcV6_109 : (jCL.find? (fun q => q.1 == 6 && (q.2.1 == 109 && q.2.2.1 == 0))).map (fun q => q.2.2.2.1) = some 64 := by decide +kernel
theorem jcn6_113 : jOL.any (fun q => q.1 == 6 && q.2.1 == 113) = false := by decide +kernel
theorem jcV6_113 : (jCL.find? (fun q => q.1 == 6 && (q.2.1 == 113 && q.2.2.1 == 0))).map (fun q => q.2.2.2.1) = some 94 := by decide +kernel
theorem jcn6_120 : jOL.any (fun q => q.1 == 6 && q.2.1 == 120) = false := by decide +kernel
theorem jcV6_120 : (jCL.find? (fun q => q.1 == 6 && (q.2.1 == 120 && q.2.2.1 == 0))).map (fun q => q.2.2.2.1) = some 91 := by decide +kernel
theorem jcn6_124 : jOL.any (fun q => q.1 == 6 && q.2.1 == 124) = false := by decide +kernel
theorem jcV6_124 : (jCL.find? (fun q => q.1 == 6 && (q.2.1 == 124 && q.2.2.1 == 0))).map (fun q => q.2.2.2.1) = some 66 := by decide +kernel
theorem jcn7_23 : jOL.any (fun q => q.1 == 7 && q.2.1 == 23) = false := by decide +kernel
theorem jcV7_23 : (jCL.find? (fun q => q.1 == 7 && (q.2.1 == 23 && q.2.2.1 == 0))).map (fun q => q.2.2.2.1) = some 69 := by decide +kernel
theorem jcn7_27 : jOL.any (fun q => q.1 == 7 && q.2.1 == 27) = false := by decide +kernel
theorem jcS7_27 : (jCL.find? (fun q => q.1 == 7 && (q.2.1 == 27 && q.2.2.1 == 1))).map (fun q => q.2.2.2.1) = some 70 := by decide +kernel
theorem jcn8_35 : jOL.any (fun q => q.1 == 8 && q.2.1 == 35) = false := by decide +kernel
theorem jcS8_35 : (jCL.find? (fun q => q.1 == 8 && (q.2.1 == 35 && q.2.2.1 == 1))).map (fun q => q.2.2.2.1) = some 259 := by decide +kernel
theorem jcn8_46 : jOL.any (fun q => q.1 == 8 && q.2.1 == 46) = false := by decide +kernel
theorem jcI8_46 : (jCL.find? (fun q => q.1 == 8 && (q.2.1 == 46 && (q.2.2.1 == 2 || q.2.2.1 == 3)))).map (fun q => q.2.2.2.1) = some 67 := by decide +kernel
theorem jcn8_49 : jOL.any (fun q => q.1 == 8 && q.2.1 == 49) = false := by decide +kernel
theorem jcV8_49 : (jCL.find? (fun q => q.1 == 8 && (q.2.1 == 49 && q.2.2.1 == 0))).map (fun q => q.2.2.2.1) = some 98 := by decide +kernel
theorem jcn8_54 : jOL.any (fun q => q.1 == 8 && q.2.1 == 54) = false := by decide +kernel
theorem jcV8_54 : (jCL.find? (fun q => q.1 == 8 && (q.2.1 == 54 && q.2.2.1 == 0))).map (fun q => q.2.2.2.1) = some 100 := by decide +kernel
theorem jcn8_58 : jOL.any (fun q => q.1 == 8 && q.2.1 == 58) = false := by decide +kernel
theorem jcV8_58 : (jCL.find? (fun q => q.1 == 8 && (q.2.1 == 58 && q.2.2.1 == 0))).map (fun q => q.2.2.2.1) = some 101 := by decide +kernel
theorem jcn8_62 : jOL.any (fun q => q.1 == 8 && q.2.1 == 62) = false := by decide +kernel
theorem jcV8_62 : (jCL.find? (fun q => q.1 == 8 && (q.2.1 == 62 && q.2.2.1 == 0))).map (fun q => q.2.2.2.1) = some 99 := by decide +kernel
theorem jcn8_65 : jOL.any (fun q => q.1 == 8 && q.2.1 == 65) = false := by decide +kernel
theorem jcV8_65 : (jCL.find? (fun q => q.1 == 8 && (q.2.1 == 65 && q.2.2.1 == 0))).map (fun q => q.2.2.2.1) = some 73 := by decide +kernel
theorem jcn8_71 : jOL.any (fun q => q.1 == 8 && q.2.1 == 71) = false := by decide +kernel
theorem jcV8_71 : (jCL.find? (fun q => q.1 == 8 && (q.2.1 == 71 && q.2.2.1 == 0))).map (fun q => q.2.2.2.1) = some 77 := by decide +kernel
theorem jcn8_78 : jOL.any (fun q => q.1 == 8 && q.2.1 == 78) = false := by decide +kernel
theorem jcV8_78 : (jCL.find? (fun q => q.1 == 8 && (q.2.1 == 78 && q.2.2.1 == 0))).map (fun q => q.2.2.2.1) = some 78 := by decide +kernel
theorem jcn8_81 : jOL.any (fun q => q.1 == 8 && q.2.1 == 81) = false := by decide +kernel
theorem jcV8_81 : (jCL.find? (fun q => q.1 == 8 && (q.2.1 == 81 && q.2.2.1 == 0))).map (fun q => q.2.2.2.1) = some 75 := by decide +kernel
theorem jcn8_89 : jOL.any (fun q => q.1 == 8 && q.2.1 == 89) = false := by decide +kernel
theorem jcV8_89 : (jCL.find? (fun q => q.1 == 8 && (q.2.1 == 89 && q.2.2.1 == 0))).map (fun q => q.2.2.2.1) = some 79 := by decide +kernel
theorem jcn8_92 : jOL.any (fun q => q.1 == 8 && q.2.1 == 92) = false := by decide +kernel
theorem jcS8_92 : (jCL.find? (fun q => q.1 == 8 && (q.2.1 == 92 && q.2.2.1 == 1))).map (fun q => q.2.2.2.1) = some 76 := by decide +kernel
theorem jcn8_96 : jOL.any (fun q => q.1 == 8 && q.2.1 == 96) = false := by decide +kernel
theorem jcV8_96 : (jCL.find? (fun q => q.1 == 8 && (q.2.1 == 96 && q.2.2.1 == 0))).map (fun q => q.2.2.2.1) = some 74 := by decide +kernel
theorem jcn9_28 : jOL.any (fun q => q.1 == 9 && q.2.1 == 28) = false := by decide +kernel
theorem jcS9_28 : (jCL.find? (fun q => q.1 == 9 && (q.2.1 == 28 && q.2.2.1 == 1))).map (fun q => q.2.2.2.1) = some 258 := by decide +kernel
theorem jcn9_43 : jOL.any (fun q => q.1 == 9 && q.2.1 == 43) = false := by decide +kernel
theorem jcV9_43 : (jCL.find? (fun q => q.1 == 9 && (q.2.1 == 43 && q.2.2.1 == 0))).map (fun q => q.2.2.2.1) = some 6 := by decide +kernel
theorem jcn9_50 : jOL.any (fun q => q.1 == 9 && q.2.1 == 50) = false := by decide +kernel
theorem jcV9_50 : (jCL.find? (fun q => q.1 == 9 && (q.2.1 == 50 && q.2.2.1 == 0))).map (fun q => q.2.2.2.1) = some 84 := by decide +kernel
theorem jcn9_57 : jOL.any (fun q => q.1 == 9 && q.2.1 == 57) = false := by decide +kernel
theorem jcV9_57 : (jCL.find? (fun q => q.1 == 9 && (q.2.1 == 57 && q.2.2.1 == 0))).map (fun q => q.2.2.2.1) = some 92 := by decide +kernel
theorem jcn9_66 : jOL.any (fun q => q.1 == 9 && q.2.1 == 66) = false := by decide +kernel
theorem jcS9_66 : (jCL.find? (fun q => q.1 == 9 && (q.2.1 == 66 && q.2.2.1 == 1))).map (fun q => q.2.2.2.1) = some 256 := by decide +kernel
theorem jcn9_71 : jOL.any (fun q => q.1 == 9 && q.2.1 == 71) = false := by decide +kernel
theorem jcV9_71 : (jCL.find? (fun q => q.1 == 9 && (q.2.1 == 71 && q.2.2.1 == 0))).map (fun q => q.2.2.2.1) = some 86 := by decide +kernel
theorem jcn10_34 : jOL.any (fun q => q.1 == 10 && q.2.1 == 34) = false := by decide +kernel
theorem jcV10_34 : (jCL.find? (fun q => q.1 == 10 && (q.2.1 == 34 && q.2.2.1 == 0))).map (fun q => q.2.2.2.1) = some 96 := by decide +kernel
theorem jcn10_38 : jOL.any (fun q => q.1 == 10 && q.2.1 == 38) = false := by decide +kernel
theorem jcV10_38 : (jCL.find? (fun q => q.1 == 10 && (q.2.1 == 38 && q.2.2.1 == 0))).map (fun q => q.2.2.2.1) = some 99 := by decide +kernel
theorem jcn10_41 : jOL.any (fun q => q.1 == 10 && q.2.1 == 41) = false := by decide +kernel
theorem jcV10_41 : (jCL.find? (fun q => q.1 == 10 && (q.2.1 == 41 && q.2.2.1 == 0))).map (fun q => q.2.2.2.1) = some 260 := by decide +kernel
theorem jcn10_46 : jOL.any (fun q => q.1 == 10 && q.2.1 == 46) = false := by decide +kernel
theorem jcV10_46 : (jCL.find? (fun q => q.1 == 10 && (q.2.1 == 46 && q.2.2.1 == 0))).map (fun q => q.2.2.2.1) = some 262 := by decide +kernel
theorem jcn10_50 : jOL.any (fun q => q.1 == 10 && q.2.1 == 50) = false := by decide +kernel
theorem jcV10_50 : (jCL.find? (fun q => q.1 == 10 && (q.2.1 == 50 && q.2.2.1 == 0))).map (fun q => q.2.2.2.1) = some 101 := by decide +kernel
theorem jcn11_9 : jOL.any (fun q => q.1 == 11 && q.2.1 == 9) = false := by decide +kernel
theorem jcI11_9 : (jCL.find? (fun q => q.1 == 11 && (q.2.1 == 9 && (q.2.2.1 == 2 || q.2.2.1 == 3)))).map (fun q => q.2.2.2.1) = some 95 := by decide +kernel
theorem jcn11_18 : jOL.any (fun q => q.1 == 11 && q.2.1 == 18) = false := by decide +kernel
theorem jcI11_18 : (jCL.find? (fun q => q.1 == 11 && (q.2.1 == 18 && (q.2.2.1 == 2 || q.2.2.1 == 3)))).map (fun q => q.2.2.2.1) = some 71 := by decide +kernel
theorem jcn11_35 : jOL.any (fun q => q.1 == 11 && q.2.1 == 35) = false := by decide +kernel
theorem jcI11_35 : (jCL.find? (fun q => q.1 == 11 && (q.2.1 == 35 && (q.2.2.1 == 2 || q.2.2.1 == 3)))).map (fun q => q.2.2.2.1) = some 39 := by decide +kernel
theorem jcn11_42 : jOL.any (fun q => q.1 == 11 && q.2.1 == 42) = false := by decide +kernel
theorem jcI11_42 : (jCL.find? (fun q => q.1 == 11 && (q.2.1 == 42 && (q.2.2.1 == 2 || q.2.2.1 == 3)))).map (fun q => q.2.2.2.1) = some 47 := by decide +kernel
theorem jcn11_53 : jOL.any (fun q => q.1 == 11 && q.2.1 == 53) = false := by decide +kernel
theorem jcI11_53 : (jCL.find? (fun q => q.1 == 11 && (q.2.1 == 53 && (q.2.2.1 == 2 || q.2.2.1 == 3)))).map (fun q => q.2.2.2.1) = some 50 := by decide +kernel
theorem jcn11_60 : jOL.any (fun q => q.1 == 11 && q.2.1 == 60) = false := by decide +kernel
theorem jcI11_60 : (jCL.find? (fun q => q.1 == 11 && (q.2.1 == 60 && (q.2.2.1 == 2 || q.2.2.1 == 3)))).map (fun q => q.2.2.2.1) = some 20 := by decide +kernel
theorem jcn11_65 : jOL.any (fun q => q.1 == 11 && q.2.1 == 65) = false := by decide +kernel
theorem jcV11_65 : (jCL.find? (fun q => q.1 == 11 && (q.2.1 == 65 && q.2.2.1 == 0))).map (fun q => q.2.2.2.1) = some 96 := by decide +kernel
theorem jcn11_69 : jOL.any (fun q => q.1 == 11 && q.2.1 == 69) = false := by decide +kernel
theorem jcV11_69 : (jCL.find? (fun q => q.1 == 11 && (q.2.1 == 69 && q.2.2.1 == 0))).map (fun q => q.2.2.2.1) = some 97 := by decide +kernel
theorem jcn11_78 : jOL.any (fun q => q.1 == 11 && q.2.1 == 78) = false := by decide +kernel
theorem jcI11_78 : (jCL.find? (fun q => q.1 == 11 && (q.2.1 == 78 && (q.2.2.1 == 2 || q.2.2.1 == 3)))).map (fun q => q.2.2.2.1) = some 0 := by decide +kernel
theorem jcn11_79 : jOL.any (fun q => q.1 == 11 && q.2.1 == 79) = false := by decide +kernel
theorem jcV11_79 : (jCL.find? (fun q => q.1 == 11 && (q.2.1 == 79 && q.2.2.1 == 0))).map (fun q => q.2.2.2.1) = some 1 := by decide +kernel
theorem jcn11_94 : jOL.any (fun q => q.1 == 11 && q.2.1 == 94) = false := by decide +kernel
theorem jcV11_94 : (jCL.find? (fun q => q.1 == 11 && (q.2.1 == 94 && q.2.2.1 == 0))).map (fun q => q.2.2.2.1) = some 82 := by decide +kernel
theorem jcn11_113 : jOL.any (fun q => q.1 == 11 && q.2.1 == 113) = false := by decide +kernel
theorem jcV11_113 : (jCL.find? (fun q => q.1 == 11 && (q.2.1 == 113 && q.2.2.1 == 0))).map (fun q => q.2.2.2.1) = some 72 := by decide +kernel
theorem jcn11_114 : jOL.any (fun q => q.1 == 11 && q.2.1 == 114) = false := by decide +kernel
theorem jcV11_114 : (jCL.find? (fun q => q.1 == 11 && (q.2.1 == 114 && q.2.2.1 == 0))).map (fun q => q.2.2.2.1) = some 80 := by decide +kernel
theorem jcn11_121 : jOL.any (fun q => q.1 == 11 && q.2.1 == 121) = false := by decide +kernel
theorem jcV11_121 : (jCL.find? (fun q => q.1 == 11 && (q.2.1 == 121 && q.2.2.1 == 0))).map (fun q => q.2.2.2.1) = some 5 := by decide +kernel
theorem jcn11_134 : jOL.any (fun q => q.1 == 11 && q.2.1 == 134) = false := by decide +kernel
theorem jcV11_134 : (jCL.find? (fun q => q.1 == 11 && (q.2.1 == 134 && q.2.2.1 == 0))).map (fun q => q.2.2.2.1) = some 83 := by decide +kernel
theorem jcn11_138 : jOL.any (fun q => q.1 == 11 && q.2.1 == 138) = false := by decide +kernel
theorem jcV11_138 : (jCL.find? (fun q => q.1 == 11 && (q.2.1 == 138 && q.2.2.1 == 0))).map (fun q => q.2.2.2.1) = some 7 := by decide +kernel
theorem jcn11_142 : jOL.any (fun q => q.1 == 11 && q.2.1 == 142) = false := by decide +kernel
theorem jcV11_142 : (jCL.find? (fun q => q.1 == 11 && (q.2.1 == 142 && q.2.2.1 == 0))).map (fun q => q.2.2.2.1) = some 84 := by decide +kernel
theorem jcn11_146 : jOL.any (fun q => q.1 == 11 && q.2.1 == 146) = false := by decide +kernel
theorem jcV11_146 : (jCL.find? (fun q => q.1 == 11 && (q.2.1 == 146 && q.2.2.1 == 0))).map (fun q => q.2.2.2.1) = some 8 := by decide +kernel
theorem jcn11_167 : jOL.any (fun q => q.1 == 11 && q.2.1 == 167) = false := by decide +kernel
theorem jcV11_167 : (jCL.find? (fun q => q.1 == 11 && (q.2.1 == 167 && q.2.2.1 == 0))).map (fun q => q.2.2.2.1) = some 6 := by decide +kernel
theorem jcn11_171 : jOL.any (fun q => q.1 == 11 && q.2.1 == 171) = false := by decide +kernel
theorem jcV11_171 : (jCL.find? (fun q => q.1 == 11 && (q.2.1 == 171 && q.2.2.1 == 0))).map (fun q => q.2.2.2.1) = some 85 := by decide +kernel
theorem jcn11_175 : jOL.any (fun q => q.1 == 11 && q.2.1 == 175) = false := by decide +kernel
theorem jcV11_175 : (jCL.find? (fun q => q.1 == 11 && (q.2.1 == 175 && q.2.2.1 == 0))).map (fun q => q.2.2.2.1) = some 87 := by decide +kernel
theorem jcn11_185 : jOL.any (fun q => q.1 == 11 && q.2.1 == 185) = false := by decide +kernel
theorem jcV11_185 : (jCL.find? (fun q => q.1 == 11 && (q.2.1 == 185 && q.2.2.1 == 0))).map (fun q => q.2.2.2.1) = some 48 := by decide +kernel
theorem jcn11_189 : jOL.any (fun q => q.1 == 11 && q.2.1 == 189) = false := by decide +kernel
theorem jcV11_189 : (jCL.find? (fun q => q.1 == 11 && (q.2.1 == 189 && q.2.2.1 == 0))).map (fun q => q.2.2.2.1) = some 114 := by decide +kernel
theorem jcn11_192 : jOL.any (fun q => q.1 == 11 && q.2.1 == 192) = false := by decide +kernel
theorem jcV11_192 : (jCL.find? (fun q => q.1 == 11 && (q.2.1 == 192 && q.2.2.1 == 0))).map (fun q => q.2.2.2.1) = some 21 := by decide +kernel
theorem jcn11_196 : jOL.any (fun q => q.1 == 11 && q.2.1 == 196) = false := by decide +kernel
theorem jcV11_196 : (jCL.find? (fun q => q.1 == 11 && (q.2.1 == 196 && q.2.2.1 == 0))).map (fun q => q.2.2.2.1) = some 91 := by decide +kernel
theorem jcn11_200 : jOL.any (fun q => q.1 == 11 && q.2.1 == 200) = false := by decide +kernel
theorem jcV11_200 : (jCL.find? (fun q => q.1 == 11 && (q.2.1 == 200 && q.2.2.1 == 0))).map (fun q => q.2.2.2.1) = some 92 := by decide +kernel
theorem jcn11_204 : jOL.any (fun q => q.1 == 11 && q.2.1 == 204) = false := by decide +kernel
theorem jcV11_204 : (jCL.find? (fun q => q.1 == 11 && (q.2.1 == 204 && q.2.2.1 == 0))).map (fun q => q.2.2.2.1) = some 89 := by decide +kernel
theorem jcn11_207 : jOL.any (fun q => q.1 == 11 && q.2.1 == 207) = false := by decide +kernel
theorem jcV11_207 : (jCL.find? (fun q => q.1 == 11 && (q.2.1 == 207 && q.2.2.1 == 0))).map (fun q => q.2.2.2.1) = some 49 := by decide +kernel
theorem jcn11_210 : jOL.any (fun q => q.1 == 11 && q.2.1 == 210) = false := by decide +kernel
theorem jcS11_210 : (jCL.find? (fun q => q.1 == 11 && (q.2.1 == 210 && q.2.2.1 == 1))).map (fun q => q.2.2.2.1) = some 115 := by decide +kernel
theorem jcn11_214 : jOL.any (fun q => q.1 == 11 && q.2.1 == 214) = false := by decide +kernel
theorem jcV11_214 : (jCL.find? (fun q => q.1 == 11 && (q.2.1 == 214 && q.2.2.1 == 0))).map (fun q => q.2.2.2.1) = some 23 := by decide +kernel
theorem jcn11_218 : jOL.any (fun q => q.1 == 11 && q.2.1 == 218) = false := by decide +kernel
theorem jcV11_218 : (jCL.find? (fun q => q.1 == 11 && (q.2.1 == 218 && q.2.2.1 == 0))).map (fun q => q.2.2.2.1) = some 93 := by decide +kernel
theorem jcn11_221 : jOL.any (fun q => q.1 == 11 && q.2.1 == 221) = false := by decide +kernel
theorem jcV11_221 : (jCL.find? (fun q => q.1 == 11 && (q.2.1 == 221 && q.2.2.1 == 0))).map (fun q => q.2.2.2.1) = some 24 := by decide +kernel
theorem jcn11_225 : jOL.any (fun q => q.1 == 11 && q.2.1 == 225) = false := by decide +kernel
theorem jcV11_225 : (jCL.find? (fun q => q.1 == 11 && (q.2.1 == 225 && q.2.2.1 == 0))).map (fun q => q.2.2.2.1) = some 25 := by decide +kernel
theorem jcn11_229 : jOL.any (fun q => q.1 == 11 && q.2.1 == 229) = false := by decide +kernel
theorem jcV11_229 : (jCL.find? (fun q => q.1 == 11 && (q.2.1 == 229 && q.2.2.1 == 0))).map (fun q => q.2.2.2.1) = some 26 := by decide +kernel
theorem jcn11_232 : jOL.any (fun q => q.1 == 11 && q.2.1 == 232) = false := by decide +kernel
theorem jcV11_232 : (jCL.find? (fun q => q.1 == 11 && (q.2.1 == 232 && q.2.2.1 == 0))).map (fun q => q.2.2.2.1) = some 27 := by decide +kernel
theorem jcn11_235 : jOL.any (fun q => q.1 == 11 && q.2.1 == 235) = false := by decide +kernel
theorem jcS11_235 : (jCL.find? (fun q => q.1 == 11 && (q.2.1 == 235 && q.2.2.1 == 1))).map (fun q => q.2.2.2.1) = some 256 := by decide +kernel
theorem jcn11_240 : jOL.any (fun q => q.1 == 11 && q.2.1 == 240) = false := by decide +kernel
theorem jcV11_240 : (jCL.find? (fun q => q.1 == 11 && (q.2.1 == 240 && q.2.2.1 == 0))).map (fun q => q.2.2.2.1) = some 29 := by decide +kernel
theorem jcn11_243 : jOL.any (fun q => q.1 == 11 && q.2.1 == 243) = false := by decide +kernel
theorem jcV11_243 : (jCL.find? (fun q => q.1 == 11 && (q.2.1 == 243 && q.2.2.1 == 0))).map (fun q => q.2.2.2.1) = some 32 := by decide +kernel
theorem jcn11_253 : jOL.any (fun q => q.1 == 11 && q.2.1 == 253) = false := by decide +kernel
theorem jcV11_253 : (jCL.find? (fun q => q.1 == 11 && (q.2.1 == 253 && q.2.2.1 == 0))).map (fun q => q.2.2.2.1) = some 51 := by decide +kernel
theorem jcn11_257 : jOL.any (fun q => q.1 == 11 && q.2.1 == 257) = false := by decide +kernel
theorem jcV11_257 : (jCL.find? (fun q => q.1 == 11 && (q.2.1 == 257 && q.2.2.1 == 0))).map (fun q => q.2.2.2.1) = some 54 := by decide +kernel
theorem jcn11_260 : jOL.any (fun q => q.1 == 11 && q.2.1 == 260) = false := by decide +kernel
theorem jcV11_260 : (jCL.find? (fun q => q.1 == 11 && (q.2.1 == 260 && q.2.2.1 == 0))).map (fun q => q.2.2.2.1) = some 57 := by decide +kernel
theorem jcn11_264 : jOL.any (fun q => q.1 == 11 && q.2.1 == 264) = false := by decide +kernel
theorem jcV11_264 : (jCL.find? (fun q => q.1 == 11 && (q.2.1 == 264 && q.2.2.1 == 0))).map (fun q => q.2.2.2.1) = some 59 := by decide +kernel
theorem jcn11_267 : jOL.any (fun q => q.1 == 11 && q.2.1 == 267) = false := by decide +kernel
theorem jcV11_267 : (jCL.find? (fun q => q.1 == 11 && (q.2.1 == 267 && q.2.2.1 == 0))).map (fun q => q.2.2.2.1) = some 61 := by decide +kernel
theorem jcn11_271 : jOL.any (fun q => q.1 == 11 && q.2.1 == 271) = false := by decide +kernel
theorem jcV11_271 : (jCL.find? (fun q => q.1 == 11 && (q.2.1 == 271 && q.2.2.1 == 0))).map (fun q => q.2.2.2.1) = some 62 := by decide +kernel
theorem jcn11_274 : jOL.any (fun q => q.1 == 11 && q.2.1 == 274) = false := by decide +kernel
theorem jcV11_274 : (jCL.find? (fun q => q.1 == 11 && (q.2.1 == 274 && q.2.2.1 == 0))).map (fun q => q.2.2.2.1) = some 63 := by decide +kernel
theorem jcn11_278 : jOL.any (fun q => q.1 == 11 && q.2.1 == 278) = false := by decide +kernel
theorem jcV11_278 : (jCL.find? (fun q => q.1 == 11 && (q.2.1 == 278 && q.2.2.1 == 0))).map (fun q => q.2.2.2.1) = some 65 := by decide +kernel
theorem jcn11_281 : jOL.any (fun q => q.1 == 11 && q.2.1 == 281) = false := by decide +kernel
theorem jcS11_281 : (jCL.find? (fun q => q.1 == 11 && (q.2.1 == 281 && q.2.2.1 == 1))).map (fun q => q.2.2.2.1) = some 257 := by decide +kernel
theorem jcn11_284 : jOL.any (fun q => q.1 == 11 && q.2.1 == 284) = false := by decide +kernel
theorem jcV11_284 : (jCL.find? (fun q => q.1 == 11 && (q.2.1 == 284 && q.2.2.1 == 0))).map (fun q => q.2.2.2.1) = some 42 := by decide +kernel
theorem jcn11_288 : jOL.any (fun q => q.1 == 11 && q.2.1 == 288) = false := by decide +kernel
theorem jcV11_288 : (jCL.find? (fun q => q.1 == 11 && (q.2.1 == 288 && q.2.2.1 == 0))).map (fun q => q.2.2.2.1) = some 43 := by decide +kernel
theorem jcn11_292 : jOL.any (fun q => q.1 == 11 && q.2.1 == 292) = false := by decide +kernel
theorem jcV11_292 : (jCL.find? (fun q => q.1 == 11 && (q.2.1 == 292 && q.2.2.1 == 0))).map (fun q => q.2.2.2.1) = some 35 := by decide +kernel
theorem jcn11_296 : jOL.any (fun q => q.1 == 11 && q.2.1 == 296) = false := by decide +kernel
theorem jcV11_296 : (jCL.find? (fun q => q.1 == 11 && (q.2.1 == 296 && q.2.2.1 == 0))).map (fun q => q.2.2.2.1) = some 37 := by decide +kernel
theorem jcn11_300 : jOL.any (fun q => q.1 == 11 && q.2.1 == 300) = false := by decide +kernel
theorem jcV11_300 : (jCL.find? (fun q => q.1 == 11 && (q.2.1 == 300 && q.2.2.1 == 0))).map (fun q => q.2.2.2.1) = some 40 := by decide +kernel
theorem jcn12_95 : jOL.any (fun q => q.1 == 12 && q.2.1 == 95) = false := by decide +kernel
theorem jcV12_95 : (jCL.find? (fun q => q.1 == 12 && (q.2.1 == 95 && q.2.2.1 == 0))).map (fun q => q.2.2.2.1) = some 143 := by decide +kernel
theorem jcn12_105 : jOL.any (fun q => q.1 == 12 && q.2.1 == 105) = false := by decide +kernel
theorem jcV12_105 : (jCL.find? (fun q => q.1 == 12 && (q.2.1 == 105 && q.2.2.1 == 0))).map (fun q => q.2.2.2.1) = some 148 := by decide +kernel
theorem jcn12_109 : jOL.any (fun q => q.1 == 12 && q.2.1 == 109) = false := by decide +kernel
theorem jcV12_109 : (jCL.find? (fun q => q.1 == 12 && (q.2.1 == 109 && q.2.2.1 == 0))).map (fun q => q.2.2.2.1) = some 151 := by decide +kernel
theorem jcn12_113 : jOL.any (fun q => q.1 == 12 && q.2.1 == 113) = false := by decide +kernel
theorem jcV12_113 : (jCL.find? (fun q => q.1 == 12 && (q.2.1 == 113 && q.2.2.1 == 0))).map (fun q => q.2.2.2.1) = some 150 := by decide +kernel
theorem jcn12_117 : jOL.any (fun q => q.1 == 12 && q.2.1 == 117) = false := by decide +kernel
theorem jcV12_117 : (jCL.find? (fun q => q.1 == 12 && (q.2.1 == 117 && q.2.2.1 == 0))).map (fun q => q.2.2.2.1) = some 155 := by decide +kernel
theorem jcn12_120 : jOL.any (fun q => q.1 == 12 && q.2.1 == 120) = false := by decide +kernel
theorem jcV12_120 : (jCL.find? (fun q => q.1 == 12 && (q.2.1 == 120 && q.2.2.1 == 0))).map (fun q => q.2.2.2.1) = some 158 := by decide +kernel
theorem jcn12_123 : jOL.any (fun q => q.1 == 12 && q.2.1 == 123) = false := by decide +kernel
theorem jcV12_123 : (jCL.find? (fun q => q.1 == 12 && (q.2.1 == 123 && q.2.2.1 == 0))).map (fun q => q.2.2.2.1) = some 152 := by decide +kernel
theorem jcn12_130 : jOL.any (fun q => q.1 == 12 && q.2.1 == 130) = false := by decide +kernel
theorem jcS12_130 : (jCL.find? (fun q => q.1 == 12 && (q.2.1 == 130 && q.2.2.1 == 1))).map (fun q => q.2.2.2.1) = some 159 := by decide +kernel
theorem jcn12_170 : jOL.any (fun q => q.1 == 12 && q.2.1 == 170) = false := by decide +kernel
theorem jcS12_170 : (jCL.find? (fun q => q.1 == 12 && (q.2.1 == 170 && q.2.2.1 == 1))).map (fun q => q.2.2.2.1) = some 178 := by decide +kernel
theorem jcn12_174 : jOL.any (fun q => q.1 == 12 && q.2.1 == 174) = false := by decide +kernel
theorem jcV12_174 : (jCL.find? (fun q => q.1 == 12 && (q.2.1 == 174 && q.2.2.1 == 0))).map (fun q => q.2.2.2.1) = some 169 := by decide +kernel
theorem jcn12_179 : jOL.any (fun q => q.1 == 12 && q.2.1 == 179) = false := by decide +kernel
theorem jcV12_179 : (jCL.find? (fun q => q.1 == 12 && (q.2.1 == 179 && q.2.2.1 == 0))).map (fun q => q.2.2.2.1) = some 157 := by decide +kernel
theorem jcn12_182 : jOL.any (fun q => q.1 == 12 && q.2.1 == 182) = false := by decide +kernel
theorem jcV12_182 : (jCL.find? (fun q => q.1 == 12 && (q.2.1 == 182 && q.2.2.1 == 0))).map (fun q => q.2.2.2.1) = some 168 := by decide +kernel
theorem jcn12_185 : jOL.any (fun q => q.1 == 12 && q.2.1 == 185) = false := by decide +kernel
theorem jcV12_185 : (jCL.find? (fun q => q.1 == 12 && (q.2.1 == 185 && q.2.2.1 == 0))).map (fun q => q.2.2.2.1) = some 170 := by decide +kernel
theorem jcn12_188 : jOL.any (fun q => q.1 == 12 && q.2.1 == 188) = false := by decide +kernel
theorem jcV12_188 : (jCL.find? (fun q => q.1 == 12 && (q.2.1 == 188 && q.2.2.1 == 0))).map (fun q => q.2.2.2.1) = some 167 := by decide +kernel
theorem jcn12_192 : jOL.any (fun q => q.1 == 12 && q.2.1 == 192) = false := by decide +kernel
theorem jcV12_192 : (jCL.find? (fun q => q.1 == 12 && (q.2.1 == 192 && q.2.2.1 == 0))).map (fun q => q.2.2.2.1) = some 166 := by decide +kernel
theorem jcn12_195 : jOL.any (fun q => q.1 == 12 && q.2.1 == 195) = false := by decide +kernel
theorem jcV12_195 : (jCL.find? (fun q => q.1 == 12 && (q.2.1 == 195 && q.2.2.1 == 0))).map (fun q => q.2.2.2.1) = some 165 := by decide +kernel
theorem jcn12_200 : jOL.any (fun q => q.1 == 12 && q.2.1 == 200) = false := by decide +kernel
theorem jcV12_200 : (jCL.find? (fun q => q.1 == 12 && (q.2.1 == 200 && q.2.2.1 == 0))).map (fun q => q.2.2.2.1) = some 174 := by decide +kernel
theorem jcn12_203 : jOL.any (fun q => q.1 == 12 && q.2.1 == 203) = false := by decide +kernel
theorem jcV12_203 : (jCL.find? (fun q => q.1 == 12 && (q.2.1 == 203 && q.2.2.1 == 0))).map (fun q => q.2.2.2.1) = some 175 := by decide +kernel
theorem jcn12_206 : jOL.any (fun q => q.1 == 12 && q.2.1 == 206) = false := by decide +kernel
theorem jcV12_206 : (jCL.find? (fun q => q.1 == 12 && (q.2.1 == 206 && q.2.2.1 == 0))).map (fun q => q.2.2.2.1) = some 177 := by decide +kernel
theorem jcn12_209 : jOL.any (fun q => q.1 == 12 && q.2.1 == 209) = false := by decide +kernel
theorem jcV12_209 : (jCL.find? (fun q => q.1 == 12 && (q.2.1 == 209 && q.2.2.1 == 0))).map (fun q => q.2.2.2.1) = some 179 := by decide +kernel
theorem jcn12_212 : jOL.any (fun q => q.1 == 12 && q.2.1 == 212) = false := by decide +kernel
theorem jcV12_212 : (jCL.find? (fun q => q.1 == 12 && (q.2.1 == 212 && q.2.2.1 == 0))).map (fun q => q.2.2.2.1) = some 173 := by decide +kernel
theorem jcn12_215 : jOL.any (fun q => q.1 == 12 && q.2.1 == 215) = false := by decide +kernel
theorem jcV12_215 : (jCL.find? (fun q => q.1 == 12 && (q.2.1 == 215 && q.2.2.1 == 0))).map (fun q => q.2.2.2.1) = some 176 := by decide +kernel
theorem jcn12_224 : jOL.any (fun q => q.1 == 12 && q.2.1 == 224) = false := by decide +kernel
theorem jcV12_224 : (jCL.find? (fun q => q.1 == 12 && (q.2.1 == 224 && q.2.2.1 == 0))).map (fun q => q.2.2.2.1) = some 171 := by decide +kernel
theorem jcn12_227 : jOL.any (fun q => q.1 == 12 && q.2.1 == 227) = false := by decide +kernel
theorem jcV12_227 : (jCL.find? (fun q => q.1 == 12 && (q.2.1 == 227 && q.2.2.1 == 0))).map (fun q => q.2.2.2.1) = some 172 := by decide +kernel
theorem jcn12_230 : jOL.any (fun q => q.1 == 12 && q.2.1 == 230) = false := by decide +kernel
theorem jcV12_230 : (jCL.find? (fun q => q.1 == 12 && (q.2.1 == 230 && q.2.2.1 == 0))).map (fun q => q.2.2.2.1) = some 156 := by decide +kernel
theorem jcn12_236 : jOL.any (fun q => q.1 == 12 && q.2.1 == 236) = false := by decide +kernel
theorem jcV12_236 : (jCL.find? (fun q => q.1 == 12 && (q.2.1 == 236 && q.2.2.1 == 0))).map (fun q => q.2.2.2.1) = some 154 := by decide +kernel
theorem jcn12_239 : jOL.any (fun q => q.1 == 12 && q.2.1 == 239) = false := by decide +kernel
theorem jcV12_239 : (jCL.find? (fun q => q.1 == 12 && (q.2.1 == 239 && q.2.2.1 == 0))).map (fun q => q.2.2.2.1) = some 160 := by decide +kernel
theorem jcn12_242 : jOL.any (fun q => q.1 == 12 && q.2.1 == 242) = false := by decide +kernel
theorem jcV12_242 : (jCL.find? (fun q => q.1 == 12 && (q.2.1 == 242 && q.2.2.1 == 0))).map (fun q => q.2.2.2.1) = some 161 := by decide +kernel
theorem jcn12_245 : jOL.any (fun q => q.1 == 12 && q.2.1 == 245) = false := by decide +kernel
theorem jcV12_245 : (jCL.find? (fun q => q.1 == 12 && (q.2.1 == 245 && q.2.2.1 == 0))).map (fun q => q.2.2.2.1) = some 162 := by decide +kernel
theorem jcn12_248 : jOL.any (fun q => q.1 == 12 && q.2.1 == 248) = false := by decide +kernel
theorem jcV12_248 : (jCL.find? (fun q => q.1 == 12 && (q.2.1 == 248 && q.2.2.1 == 0))).map (fun q => q.2.2.2.1) = some 163 := by decide +kernel
theorem jcn12_253 : jOL.any (fun q => q.1 == 12 && q.2.1 == 253) = false := by decide +kernel
theorem jcV12_253 : (jCL.find? (fun q => q.1 == 12 && (q.2.1 == 253 && q.2.2.1 == 0))).map (fun q => q.2.2.2.1) = some 149 := by decide +kernel
theorem jcn12_261 : jOL.any (fun q => q.1 == 12 && q.2.1 == 261) = false := by decide +kernel
theorem jcV12_261 : (jCL.find? (fun q => q.1 == 12 && (q.2.1 == 261 && q.2.2.1 == 0))).map (fun q => q.2.2.2.1) = some 153 := by decide +kernel
theorem jcn12_264 : jOL.any (fun q => q.1 == 12 && q.2.1 == 264) = false := by decide +kernel
theorem jcV12_264 : (jCL.find? (fun q => q.1 == 12 && (q.2.1 == 264 && q.2.2.1 == 0))).map (fun q => q.2.2.2.1) = some 164 := by decide +kernel
theorem jcn12_267 : jOL.any (fun q => q.1 == 12 && q.2.1 == 267) = false := by decide +kernel
theorem jcV12_267 : (jCL.find? (fun q => q.1 == 12 && (q.2.1 == 267 && q.2.2.1 == 0))).map (fun q => q.2.2.2.1) = some 147 := by decide +kernel
theorem jcn12_273 : jOL.any (fun q => q.1 == 12 && q.2.1 == 273) = false := by decide +kernel
theorem jcV12_273 : (jCL.find? (fun q => q.1 == 12 && (q.2.1 == 273 && q.2.2.1 == 0))).map (fun q => q.2.2.2.1) = some 146 := by decide +kernel
theorem jcn12_276 : jOL.any (fun q => q.1 == 12 && q.2.1 == 276) = false := by decide +kernel
theorem jcV12_276 : (jCL.find? (fun q => q.1 == 12 && (q.2.1 == 276 && q.2.2.1 == 0))).map (fun q => q.2.2.2.1) = some 181 := by decide +kernel
theorem jcn12_285 : jOL.any (fun q => q.1 == 12 && q.2.1 == 285) = false := by decide +kernel
theorem jcV12_285 : (jCL.find? (fun q => q.1 == 12 && (q.2.1 == 285 && q.2.2.1 == 0))).map (fun q => q.2.2.2.1) = some 207 := by decide +kernel
theorem jcn12_289 : jOL.any (fun q => q.1 == 12 && q.2.1 == 289) = false := by decide +kernel
theorem jcV12_289 : (jCL.find? (fun q => q.1 == 12 && (q.2.1 == 289 && q.2.2.1 == 0))).map (fun q => q.2.2.2.1) = some 208 := by decide +kernel
theorem jcn12_293 : jOL.any (fun q => q.1 == 12 && q.2.1 == 293) = false := by decide +kernel
theorem jcS12_293 : (jCL.find? (fun q => q.1 == 12 && (q.2.1 == 293 && q.2.2.1 == 1))).map (fun q => q.2.2.2.1) = some 209 := by decide +kernel
theorem jcn12_297 : jOL.any (fun q => q.1 == 12 && q.2.1 == 297) = false := by decide +kernel
theorem jcV12_297 : (jCL.find? (fun q => q.1 == 12 && (q.2.1 == 297 && q.2.2.1 == 0))).map (fun q => q.2.2.2.1) = some 188 := by decide +kernel
theorem jcn12_300 : jOL.any (fun q => q.1 == 12 && q.2.1 == 300) = false := by decide +kernel
theorem jcV12_300 : (jCL.find? (fun q => q.1 == 12 && (q.2.1 == 300 && q.2.2.1 == 0))).map (fun q => q.2.2.2.1) = some 190 := by decide +kernel
theorem jcn12_304 : jOL.any (fun q => q.1 == 12 && q.2.1 == 304) = false := by decide +kernel
theorem jcV12_304 : (jCL.find? (fun q => q.1 == 12 && (q.2.1 == 304 && q.2.2.1 == 0))).map (fun q => q.2.2.2.1) = some 187 := by decide +kernel
theorem jcn12_307 : jOL.any (fun q => q.1 == 12 && q.2.1 == 307) = false := by decide +kernel
theorem jcV12_307 : (jCL.find? (fun q => q.1 == 12 && (q.2.1 == 307 && q.2.2.1 == 0))).map (fun q => q.2.2.2.1) = some 189 := by decide +kernel
theorem jcn12_310 : jOL.any (fun q => q.1 == 12 && q.2.1 == 310) = false := by decide +kernel
theorem jcV12_310 : (jCL.find? (fun q => q.1 == 12 && (q.2.1 == 310 && q.2.2.1 == 0))).map (fun q => q.2.2.2.1) = some 191 := by decide +kernel
theorem jcn12_313 : jOL.any (fun q => q.1 == 12 && q.2.1 == 313) = false := by decide +kernel
theorem jcS12_313 : (jCL.find? (fun q => q.1 == 12 && (q.2.1 == 313 && q.2.2.1 == 1))).map (fun q => q.2.2.2.1) = some 203 := by decide +kernel
theorem jcn12_316 : jOL.any (fun q => q.1 == 12 && q.2.1 == 316) = false := by decide +kernel
theorem jcV12_316 : (jCL.find? (fun q => q.1 == 12 && (q.2.1 == 316 && q.2.2.1 == 0))).map (fun q => q.2.2.2.1) = some 204 := by decide +kernel
theorem jcn12_319 : jOL.any (fun q => q.1 == 12 && q.2.1 == 319) = false := by decide +kernel
theorem jcV12_319 : (jCL.find? (fun q => q.1 == 12 && (q.2.1 == 319 && q.2.2.1 == 0))).map (fun q => q.2.2.2.1) = some 183 := by decide +kernel
theorem jcn12_322 : jOL.any (fun q => q.1 == 12 && q.2.1 == 322) = false := by decide +kernel
theorem jcV12_322 : (jCL.find? (fun q => q.1 == 12 && (q.2.1 == 322 && q.2.2.1 == 0))).map (fun q => q.2.2.2.1) = some 185 := by decide +kernel
theorem jcn12_325 : jOL.any (fun q => q.1 == 12 && q.2.1 == 325) = false := by decide +kernel
theorem jcV12_325 : (jCL.find? (fun q => q.1 == 12 && (q.2.1 == 325 && q.2.2.1 == 0))).map (fun q => q.2.2.2.1) = some 186 := by decide +kernel
theorem jcn12_328 : jOL.any (fun q => q.1 == 12 && q.2.1 == 328) = false := by decide +kernel
theorem jcV12_328 : (jCL.find? (fun q => q.1 == 12 && (q.2.1 == 328 && q.2.2.1 == 0))).map (fun q => q.2.2.2.1) = some 193 := by decide +kernel
theorem jcn12_331 : jOL.any (fun q => q.1 == 12 && q.2.1 == 331) = false := by decide +kernel
theorem jcV12_331 : (jCL.find? (fun q => q.1 == 12 && (q.2.1 == 331 && q.2.2.1 == 0))).map (fun q => q.2.2.2.1) = some 206 := by decide +kernel
theorem jcn12_335 : jOL.any (fun q => q.1 == 12 && q.2.1 == 335) = false := by decide +kernel
theorem jcS12_335 : (jCL.find? (fun q => q.1 == 12 && (q.2.1 == 335 && q.2.2.1 == 1))).map (fun q => q.2.2.2.1) = some 201 := by decide +kernel
theorem jcn12_338 : jOL.any (fun q => q.1 == 12 && q.2.1 == 338) = false := by decide +kernel
theorem jcV12_338 : (jCL.find? (fun q => q.1 == 12 && (q.2.1 == 338 && q.2.2.1 == 0))).map (fun q => q.2.2.2.1) = some 205 := by decide +kernel
theorem jcn12_348 : jOL.any (fun q => q.1 == 12 && q.2.1 == 348) = false := by decide +kernel
theorem jcV12_348 : (jCL.find? (fun q => q.1 == 12 && (q.2.1 == 348 && q.2.2.1 == 0))).map (fun q => q.2.2.2.1) = some 202 := by decide +kernel
theorem jcn12_352 : jOL.any (fun q => q.1 == 12 && q.2.1 == 352) = false := by decide +kernel
theorem jcV12_352 : (jCL.find? (fun q => q.1 == 12 && (q.2.1 == 352 && q.2.2.1 == 0))).map (fun q => q.2.2.2.1) = some 200 := by decide +kernel
theorem jcn12_355 : jOL.any (fun q => q.1 == 12 && q.2.1 == 355) = false := by decide +kernel
theorem jcV12_355 : (jCL.find? (fun q => q.1 == 12 && (q.2.1 == 355 && q.2.2.1 == 0))).map (fun q => q.2.2.2.1) = some 210 := by decide +kernel
theorem jcn12_358 : jOL.any (fun q => q.1 == 12 && q.2.1 == 358) = false := by decide +kernel
theorem jcV12_358 : (jCL.find? (fun q => q.1 == 12 && (q.2.1 == 358 && q.2.2.1 == 0))).map (fun q => q.2.2.2.1) = some 199 := by decide +kernel
theorem jcn12_361 : jOL.any (fun q => q.1 == 12 && q.2.1 == 361) = false := by decide +kernel
theorem jcV12_361 : (jCL.find? (fun q => q.1 == 12 && (q.2.1 == 361 && q.2.2.1 == 0))).map (fun q => q.2.2.2.1) = some 197 := by decide +kernel
theorem jcn12_364 : jOL.any (fun q => q.1 == 12 && q.2.1 == 364) = false := by decide +kernel
theorem jcV12_364 : (jCL.find? (fun q => q.1 == 12 && (q.2.1 == 364 && q.2.2.1 == 0))).map (fun q => q.2.2.2.1) = some 198 := by decide +kernel
theorem jcn12_371 : jOL.any (fun q => q.1 == 12 && q.2.1 == 371) = false := by decide +kernel
theorem jcV12_371 : (jCL.find? (fun q => q.1 == 12 && (q.2.1 == 371 && q.2.2.1 == 0))).map (fun q => q.2.2.2.1) = some 216 := by decide +kernel
theorem jcn12_374 : jOL.any (fun q => q.1 == 12 && q.2.1 == 374) = false := by decide +kernel
theorem jcV12_374 : (jCL.find? (fun q => q.1 == 12 && (q.2.1 == 374 && q.2.2.1 == 0))).map (fun q => q.2.2.2.1) = some 217 := by decide +kernel
theorem jcn12_377 : jOL.any (fun q => q.1 == 12 && q.2.1 == 377) = false := by decide +kernel
theorem jcV12_377 : (jCL.find? (fun q => q.1 == 12 && (q.2.1 == 377 && q.2.2.1 == 0))).map (fun q => q.2.2.2.1) = some 218 := by decide +kernel
theorem jcn12_380 : jOL.any (fun q => q.1 == 12 && q.2.1 == 380) = false := by decide +kernel
theorem jcV12_380 : (jCL.find? (fun q => q.1 == 12 && (q.2.1 == 380 && q.2.2.1 == 0))).map (fun q => q.2.2.2.1) = some 219 := by decide +kernel
theorem jcn12_383 : jOL.any (fun q => q.1 == 12 && q.2.1 == 383) = false := by decide +kernel
theorem jcV12_383 : (jCL.find? (fun q => q.1 == 12 && (q.2.1 == 383 && q.2.2.1 == 0))).map (fun q => q.2.2.2.1) = some 223 := by decide +kernel
theorem jcn12_389 : jOL.any (fun q => q.1 == 12 && q.2.1 == 389) = false := by decide +kernel
theorem jcV12_389 : (jCL.find? (fun q => q.1 == 12 && (q.2.1 == 389 && q.2.2.1 == 0))).map (fun q => q.2.2.2.1) = some 226 := by decide +kernel
theorem jcn12_392 : jOL.any (fun q => q.1 == 12 && q.2.1 == 392) = false := by decide +kernel
theorem jcV12_392 : (jCL.find? (fun q => q.1 == 12 && (q.2.1 == 392 && q.2.2.1 == 0))).map (fun q => q.2.2.2.1) = some 227 := by decide +kernel
theorem jcn12_399 : jOL.any (fun q => q.1 == 12 && q.2.1 == 399) = false := by decide +kernel
theorem jcV12_399 : (jCL.find? (fun q => q.1 == 12 && (q.2.1 == 399 && q.2.2.1 == 0))).map (fun q => q.2.2.2.1) = some 225 := by decide +kernel
theorem jcn12_404 : jOL.any (fun q => q.1 == 12 && q.2.1 == 404) = false := by decide +kernel
theorem jcS12_404 : (jCL.find? (fun q => q.1 == 12 && (q.2.1 == 404 && q.2.2.1 == 1))).map (fun q => q.2.2.2.1) = some 230 := by decide +kernel
theorem jcn12_407 : jOL.any (fun q => q.1 == 12 && q.2.1 == 407) = false := by decide +kernel
theorem jcV12_407 : (jCL.find? (fun q => q.1 == 12 && (q.2.1 == 407 && q.2.2.1 == 0))).map (fun q => q.2.2.2.1) = some 231 := by decide +kernel
theorem jcn12_410 : jOL.any (fun q => q.1 == 12 && q.2.1 == 410) = false := by decide +kernel
theorem jcV12_410 : (jCL.find? (fun q => q.1 == 12 && (q.2.1 == 410 && q.2.2.1 == 0))).map (fun q => q.2.2.2.1) = some 232 := by decide +kernel
theorem jcn12_419 : jOL.any (fun q => q.1 == 12 && q.2.1 == 419) = false := by decide +kernel
theorem jcV12_419 : (jCL.find? (fun q => q.1 == 12 && (q.2.1 == 419 && q.2.2.1 == 0))).map (fun q => q.2.2.2.1) = some 237 := by decide +kernel
theorem jcn12_423 : jOL.any (fun q => q.1 == 12 && q.2.1 == 423) = false := by decide +kernel
theorem jcV12_423 : (jCL.find? (fun q => q.1 == 12 && (q.2.1 == 423 && q.2.2.1 == 0))).map (fun q => q.2.2.2.1) = some 238 := by decide +kernel
theorem jcn12_428 : jOL.any (fun q => q.1 == 12 && q.2.1 == 428) = false := by decide +kernel
theorem jcV12_428 : (jCL.find? (fun q => q.1 == 12 && (q.2.1 == 428 && q.2.2.1 == 0))).map (fun q => q.2.2.2.1) = some 240 := by decide +kernel
theorem jcn12_431 : jOL.any (fun q => q.1 == 12 && q.2.1 == 431) = false := by decide +kernel
theorem jcV12_431 : (jCL.find? (fun q => q.1 == 12 && (q.2.1 == 431 && q.2.2.1 == 0))).map (fun q => q.2.2.2.1) = some 242 := by decide +kernel
theorem jcn12_434 : jOL.any (fun q => q.1 == 12 && q.2.1 == 434) = false := by decide +kernel
theorem jcV12_434 : (jCL.find? (fun q => q.1 == 12 && (q.2.1 == 434 && q.2.2.1 == 0))).map (fun q => q.2.2.2.1) = some 246 := by decide +kernel
theorem jcn12_437 : jOL.any (fun q => q.1 == 12 && q.2.1 == 437) = false := by decide +kernel
theorem jcV12_437 : (jCL.find? (fun q => q.1 == 12 && (q.2.1 == 437 && q.2.2.1 == 0))).map (fun q => q.2.2.2.1) = some 245 := by decide +kernel
theorem jcn12_440 : jOL.any (fun q => q.1 == 12 && q.2.1 == 440) = false := by decide +kernel
theorem jcV12_440 : (jCL.find? (fun q => q.1 == 12 && (q.2.1 == 440 && q.2.2.1 == 0))).map (fun q => q.2.2.2.1) = some 248 := by decide +kernel
theorem jcn12_460 : jOL.any (fun q => q.1 == 12 && q.2.1 == 460) = false := by decide +kernel
theorem jcV12_460 : (jCL.find? (fun q => q.1 == 12 && (q.2.1 == 460 && q.2.2.1 == 0))).map (fun q => q.2.2.2.1) = some 251 := by decide +kernel
theorem jcn12_463 : jOL.any (fun q => q.1 == 12 && q.2.1 == 463) = false := by decide +kernel
theorem jcV12_463 : (jCL.find? (fun q => q.1 == 12 && (q.2.1 == 463 && q.2.2.1 == 0))).map (fun q => q.2.2.2.1) = some 252 := by decide +kernel
theorem jcn13_9 : jOL.any (fun q => q.1 == 13 && q.2.1 == 9) = false := by decide +kernel
theorem jcI13_9 : (jCL.find? (fun q => q.1 == 13 && (q.2.1 == 9 && (q.2.2.1 == 2 || q.2.2.1 == 3)))).map (fun q => q.2.2.2.1) = some 103 := by decide +kernel
theorem jcn13_12 : jOL.any (fun q => q.1 == 13 && q.2.1 == 12) = false := by decide +kernel
theorem jcI13_12 : (jCL.find? (fun q => q.1 == 13 && (q.2.1 == 12 && (q.2.2.1 == 2 || q.2.2.1 == 3)))).map (fun q => q.2.2.2.1) = some 141 := by decide +kernel
theorem jcn13_13 : jOL.any (fun q => q.1 == 13 && q.2.1 == 13) = false := by decide +kernel
theorem jcV13_13 : (jCL.find? (fun q => q.1 == 13 && (q.2.1 == 13 && q.2.2.1 == 0))).map (fun q => q.2.2.2.1) = some 104 := by decide +kernel
theorem jcn13_17 : jOL.any (fun q => q.1 == 13 && q.2.1 == 17) = false := by decide +kernel
theorem jcV13_17 : (jCL.find? (fun q => q.1 == 13 && (q.2.1 == 17 && q.2.2.1 == 0))).map (fun q => q.2.2.2.1) = some 142 := by decide +kernel
theorem jcn13_18 : jOL.any (fun q => q.1 == 13 && q.2.1 == 18) = false := by decide +kernel
theorem jcV13_18 : (jCL.find? (fun q => q.1 == 13 && (q.2.1 == 18 && q.2.2.1 == 0))).map (fun q => q.2.2.2.1) = some 105 := by decide +kernel
theorem jcn13_22 : jOL.any (fun q => q.1 == 13 && q.2.1 == 22) = false := by decide +kernel
theorem jcV13_22 : (jCL.find? (fun q => q.1 == 13 && (q.2.1 == 22 && q.2.2.1 == 0))).map (fun q => q.2.2.2.1) = some 144 := by decide +kernel
theorem jcn13_23 : jOL.any (fun q => q.1 == 13 && q.2.1 == 23) = false := by decide +kernel
theorem jcV13_23 : (jCL.find? (fun q => q.1 == 13 && (q.2.1 == 23 && q.2.2.1 == 0))).map (fun q => q.2.2.2.1) = some 106 := by decide +kernel
theorem jcn13_27 : jOL.any (fun q => q.1 == 13 && q.2.1 == 27) = false := by decide +kernel
theorem jcV13_27 : (jCL.find? (fun q => q.1 == 13 && (q.2.1 == 27 && q.2.2.1 == 0))).map (fun q => q.2.2.2.1) = some 180 := by decide +kernel
theorem jcn13_28 : jOL.any (fun q => q.1 == 13 && q.2.1 == 28) = false := by decide +kernel
theorem jcV13_28 : (jCL.find? (fun q => q.1 == 13 && (q.2.1 == 28 && q.2.2.1 == 0))).map (fun q => q.2.2.2.1) = some 107 := by decide +kernel
theorem jcn13_31 : jOL.any (fun q => q.1 == 13 && q.2.1 == 31) = false := by decide +kernel
theorem jcV13_31 : (jCL.find? (fun q => q.1 == 13 && (q.2.1 == 31 && q.2.2.1 == 0))).map (fun q => q.2.2.2.1) = some 145 := by decide +kernel
theorem jcn13_32 : jOL.any (fun q => q.1 == 13 && q.2.1 == 32) = false := by decide +kernel
theorem jcV13_32 : (jCL.find? (fun q => q.1 == 13 && (q.2.1 == 32 && q.2.2.1 == 0))).map (fun q => q.2.2.2.1) = some 108 := by decide +kernel
theorem jcn13_35 : jOL.any (fun q => q.1 == 13 && q.2.1 == 35) = false := by decide +kernel
theorem jcV13_35 : (jCL.find? (fun q => q.1 == 13 && (q.2.1 == 35 && q.2.2.1 == 0))).map (fun q => q.2.2.2.1) = some 182 := by decide +kernel
theorem jcn13_36 : jOL.any (fun q => q.1 == 13 && q.2.1 == 36) = false := by decide +kernel
theorem jcV13_36 : (jCL.find? (fun q => q.1 == 13 && (q.2.1 == 36 && q.2.2.1 == 0))).map (fun q => q.2.2.2.1) = some 109 := by decide +kernel
theorem jcn13_40 : jOL.any (fun q => q.1 == 13 && q.2.1 == 40) = false := by decide +kernel
theorem jcV13_40 : (jCL.find? (fun q => q.1 == 13 && (q.2.1 == 40 && q.2.2.1 == 0))).map (fun q => q.2.2.2.1) = some 184 := by decide +kernel
theorem jcn13_41 : jOL.any (fun q => q.1 == 13 && q.2.1 == 41) = false := by decide +kernel
theorem jcV13_41 : (jCL.find? (fun q => q.1 == 13 && (q.2.1 == 41 && q.2.2.1 == 0))).map (fun q => q.2.2.2.1) = some 110 := by decide +kernel
theorem jcn13_44 : jOL.any (fun q => q.1 == 13 && q.2.1 == 44) = false := by decide +kernel
theorem jcV13_44 : (jCL.find? (fun q => q.1 == 13 && (q.2.1 == 44 && q.2.2.1 == 0))).map (fun q => q.2.2.2.1) = some 192 := by decide +kernel
theorem jcn13_45 : jOL.any (fun q => q.1 == 13 && q.2.1 == 45) = false := by decide +kernel
theorem jcV13_45 : (jCL.find? (fun q => q.1 == 13 && (q.2.1 == 45 && q.2.2.1 == 0))).map (fun q => q.2.2.2.1) = some 111 := by decide +kernel
theorem jcn13_48 : jOL.any (fun q => q.1 == 13 && q.2.1 == 48) = false := by decide +kernel
theorem jcV13_48 : (jCL.find? (fun q => q.1 == 13 && (q.2.1 == 48 && q.2.2.1 == 0))).map (fun q => q.2.2.2.1) = some 194 := by decide +kernel
theorem jcn13_49 : jOL.any (fun q => q.1 == 13 && q.2.1 == 49) = false := by decide +kernel
theorem jcV13_49 : (jCL.find? (fun q => q.1 == 13 && (q.2.1 == 49 && q.2.2.1 == 0))).map (fun q => q.2.2.2.1) = some 113 := by decide +kernel
theorem jcn13_52 : jOL.any (fun q => q.1 == 13 && q.2.1 == 52) = false := by decide +kernel
theorem jcV13_52 : (jCL.find? (fun q => q.1 == 13 && (q.2.1 == 52 && q.2.2.1 == 0))).map (fun q => q.2.2.2.1) = some 196 := by decide +kernel
theorem jcn13_53 : jOL.any (fun q => q.1 == 13 && q.2.1 == 53) = false := by decide +kernel
theorem jcV13_53 : (jCL.find? (fun q => q.1 == 13 && (q.2.1 == 53 && q.2.2.1 == 0))).map (fun q => q.2.2.2.1) = some 116 := by decide +kernel
theorem jcn13_56 : jOL.any (fun q => q.1 == 13 && q.2.1 == 56) = false := by decide +kernel
theorem jcV13_56 : (jCL.find? (fun q => q.1 == 13 && (q.2.1 == 56 && q.2.2.1 == 0))).map (fun q => q.2.2.2.1) = some 211 := by decide +kernel
theorem jcn13_57 : jOL.any (fun q => q.1 == 13 && q.2.1 == 57) = false := by decide +kernel
theorem jcV13_57 : (jCL.find? (fun q => q.1 == 13 && (q.2.1 == 57 && q.2.2.1 == 0))).map (fun q => q.2.2.2.1) = some 117 := by decide +kernel
theorem jcn13_60 : jOL.any (fun q => q.1 == 13 && q.2.1 == 60) = false := by decide +kernel
theorem jcV13_60 : (jCL.find? (fun q => q.1 == 13 && (q.2.1 == 60 && q.2.2.1 == 0))).map (fun q => q.2.2.2.1) = some 212 := by decide +kernel
theorem jcn13_61 : jOL.any (fun q => q.1 == 13 && q.2.1 == 61) = false := by decide +kernel
theorem jcV13_61 : (jCL.find? (fun q => q.1 == 13 && (q.2.1 == 61 && q.2.2.1 == 0))).map (fun q => q.2.2.2.1) = some 118 := by decide +kernel
theorem jcn13_65 : jOL.any (fun q => q.1 == 13 && q.2.1 == 65) = false := by decide +kernel
theorem jcV13_65 : (jCL.find? (fun q => q.1 == 13 && (q.2.1 == 65 && q.2.2.1 == 0))).map (fun q => q.2.2.2.1) = some 213 := by decide +kernel
theorem jcn13_66 : jOL.any (fun q => q.1 == 13 && q.2.1 == 66) = false := by decide +kernel
theorem jcV13_66 : (jCL.find? (fun q => q.1 == 13 && (q.2.1 == 66 && q.2.2.1 == 0))).map (fun q => q.2.2.2.1) = some 119 := by decide +kernel
theorem jcn13_69 : jOL.any (fun q => q.1 == 13 && q.2.1 == 69) = false := by decide +kernel
theorem jcV13_69 : (jCL.find? (fun q => q.1 == 13 && (q.2.1 == 69 && q.2.2.1 == 0))).map (fun q => q.2.2.2.1) = some 214 := by decide +kernel
theorem jcn13_70 : jOL.any (fun q => q.1 == 13 && q.2.1 == 70) = false := by decide +kernel
theorem jcV13_70 : (jCL.find? (fun q => q.1 == 13 && (q.2.1 == 70 && q.2.2.1 == 0))).map (fun q => q.2.2.2.1) = some 120 := by decide +kernel
theorem jcn13_73 : jOL.any (fun q => q.1 == 13 && q.2.1 == 73) = false := by decide +kernel
theorem jcV13_73 : (jCL.find? (fun q => q.1 == 13 && (q.2.1 == 73 && q.2.2.1 == 0))).map (fun q => q.2.2.2.1) = some 195 := by decide +kernel
theorem jcn13_74 : jOL.any (fun q => q.1 == 13 && q.2.1 == 74) = false := by decide +kernel
theorem jcV13_74 : (jCL.find? (fun q => q.1 == 13 && (q.2.1 == 74 && q.2.2.1 == 0))).map (fun q => q.2.2.2.1) = some 121 := by decide +kernel
theorem jcn13_77 : jOL.any (fun q => q.1 == 13 && q.2.1 == 77) = false := by decide +kernel
theorem jcV13_77 : (jCL.find? (fun q => q.1 == 13 && (q.2.1 == 77 && q.2.2.1 == 0))).map (fun q => q.2.2.2.1) = some 215 := by decide +kernel
theorem jcn13_78 : jOL.any (fun q => q.1 == 13 && q.2.1 == 78) = false := by decide +kernel
theorem jcV13_78 : (jCL.find? (fun q => q.1 == 13 && (q.2.1 == 78 && q.2.2.1 == 0))).map (fun q => q.2.2.2.1) = some 122 := by decide +kernel
theorem jcn13_81 : jOL.any (fun q => q.1 == 13 && q.2.1 == 81) = false := by decide +kernel
theorem jcV13_81 : (jCL.find? (fun q => q.1 == 13 && (q.2.1 == 81 && q.2.2.1 == 0))).map (fun q => q.2.2.2.1) = some 220 := by decide +kernel
theorem jcn13_82 : jOL.any (fun q => q.1 == 13 && q.2.1 == 82) = false := by decide +kernel
theorem jcV13_82 : (jCL.find? (fun q => q.1 == 13 && (q.2.1 == 82 && q.2.2.1 == 0))).map (fun q => q.2.2.2.1) = some 123 := by decide +kernel
theorem jcn13_85 : jOL.any (fun q => q.1 == 13 && q.2.1 == 85) = false := by decide +kernel
theorem jcV13_85 : (jCL.find? (fun q => q.1 == 13 && (q.2.1 == 85 && q.2.2.1 == 0))).map (fun q => q.2.2.2.1) = some 221 := by decide +kernel
theorem jcn13_86 : jOL.any (fun q => q.1 == 13 && q.2.1 == 86) = false := by decide +kernel
theorem jcV13_86 : (jCL.find? (fun q => q.1 == 13 && (q.2.1 == 86 && q.2.2.1 == 0))).map (fun q => q.2.2.2.1) = some 128 := by decide +kernel
theorem jcn13_89 : jOL.any (fun q => q.1 == 13 && q.2.1 == 89) = false := by decide +kernel
theorem jcV13_89 : (jCL.find? (fun q => q.1 == 13 && (q.2.1 == 89 && q.2.2.1 == 0))).map (fun q => q.2.2.2.1) = some 222 := by decide +kernel
theorem jcn13_90 : jOL.any (fun q => q.1 == 13 && q.2.1 == 90) = false := by decide +kernel
theorem jcV13_90 : (jCL.find? (fun q => q.1 == 13 && (q.2.1 == 90 && q.2.2.1 == 0))).map (fun q => q.2.2.2.1) = some 129 := by decide +kernel
theorem jcn13_93 : jOL.any (fun q => q.1 == 13 && q.2.1 == 93) = false := by decide +kernel
theorem jcV13_93 : (jCL.find? (fun q => q.1 == 13 && (q.2.1 == 93 && q.2.2.1 == 0))).map (fun q => q.2.2.2.1) = some 224 := by decide +kernel
theorem jcn13_94 : jOL.any (fun q => q.1 == 13 && q.2.1 == 94) = false := by decide +kernel
theorem jcV13_94 : (jCL.find? (fun q => q.1 == 13 && (q.2.1 == 94 && q.2.2.1 == 0))).map (fun q => q.2.2.2.1) = some 130 := by decide +kernel
theorem jcn13_97 : jOL.any (fun q => q.1 == 13 && q.2.1 == 97) = false := by decide +kernel
theorem jcV13_97 : (jCL.find? (fun q => q.1 == 13 && (q.2.1 == 97 && q.2.2.1 == 0))).map (fun q => q.2.2.2.1) = some 228 := by decide +kernel
theorem jcn13_98 : jOL.any (fun q => q.1 == 13 && q.2.1 == 98) = false := by decide +kernel
theorem jcV13_98 : (jCL.find? (fun q => q.1 == 13 && (q.2.1 == 98 && q.2.2.1 == 0))).map (fun q => q.2.2.2.1) = some 133 := by decide +kernel
theorem jcn13_101 : jOL.any (fun q => q.1 == 13 && q.2.1 == 101) = false := by decide +kernel
theorem jcV13_101 : (jCL.find? (fun q => q.1 == 13 && (q.2.1 == 101 && q.2.2.1 == 0))).map (fun q => q.2.2.2.1) = some 229 := by decide +kernel
theorem jcn13_102 : jOL.any (fun q => q.1 == 13 && q.2.1 == 102) = false := by decide +kernel
theorem jcV13_102 : (jCL.find? (fun q => q.1 == 13 && (q.2.1 == 102 && q.2.2.1 == 0))).map (fun q => q.2.2.2.1) = some 124 := by decide +kernel
theorem jcn13_105 : jOL.any (fun q => q.1 == 13 && q.2.1 == 105) = false := by decide +kernel
theorem jcV13_105 : (jCL.find? (fun q => q.1 == 13 && (q.2.1 == 105 && q.2.2.1 == 0))).map (fun q => q.2.2.2.1) = some 233 := by decide +kernel
theorem jcn13_106 : jOL.any (fun q => q.1 == 13 && q.2.1 == 106) = false := by decide +kernel
theorem jcV13_106 : (jCL.find? (fun q => q.1 == 13 && (q.2.1 == 106 && q.2.2.1 == 0))).map (fun q => q.2.2.2.1) = some 132 := by decide +kernel
theorem jcn13_109 : jOL.any (fun q => q.1 == 13 && q.2.1 == 109) = false := by decide +kernel
theorem jcV13_109 : (jCL.find? (fun q => q.1 == 13 && (q.2.1 == 109 && q.2.2.1 == 0))).map (fun q => q.2.2.2.1) = some 234 := by decide +kernel
theorem jcn13_110 : jOL.any (fun q => q.1 == 13 && q.2.1 == 110) = false := by decide +kernel
theorem jcV13_110 : (jCL.find? (fun q => q.1 == 13 && (q.2.1 == 110 && q.2.2.1 == 0))).map (fun q => q.2.2.2.1) = some 125 := by decide +kernel
theorem jcn13_113 : jOL.any (fun q => q.1 == 13 && q.2.1 == 113) = false := by decide +kernel
theorem jcV13_113 : (jCL.find? (fun q => q.1 == 13 && (q.2.1 == 113 && q.2.2.1 == 0))).map (fun q => q.2.2.2.1) = some 235 := by decide +kernel
theorem jcn13_114 : jOL.any (fun q => q.1 == 13 && q.2.1 == 114) = false := by decide +kernel
theorem jcV13_114 : (jCL.find? (fun q => q.1 == 13 && (q.2.1 == 114 && q.2.2.1 == 0))).map (fun q => q.2.2.2.1) = some 134 := by decide +kernel
theorem jcn13_118 : jOL.any (fun q => q.1 == 13 && q.2.1 == 118) = false := by decide +kernel
theorem jcV13_118 : (jCL.find? (fun q => q.1 == 13 && (q.2.1 == 118 && q.2.2.1 == 0))).map (fun q => q.2.2.2.1) = some 236 := by decide +kernel
theorem jcn13_119 : jOL.any (fun q => q.1 == 13 && q.2.1 == 119) = false := by decide +kernel
theorem jcV13_119 : (jCL.find? (fun q => q.1 == 13 && (q.2.1 == 119 && q.2.2.1 == 0))).map (fun q => q.2.2.2.1) = some 131 := by decide +kernel
theorem jcn13_122 : jOL.any (fun q => q.1 == 13 && q.2.1 == 122) = false := by decide +kernel
theorem jcV13_122 : (jCL.find? (fun q => q.1 == 13 && (q.2.1 == 122 && q.2.2.1 == 0))).map (fun q => q.2.2.2.1) = some 239 := by decide +kernel
theorem jcn13_123 : jOL.any (fun q => q.1 == 13 && q.2.1 == 123) = false := by decide +kernel
theorem jcV13_123 : (jCL.find? (fun q => q.1 == 13 && (q.2.1 == 123 && q.2.2.1 == 0))).map (fun q => q.2.2.2.1) = some 126 := by decide +kernel
theorem jcn13_126 : jOL.any (fun q => q.1 == 13 && q.2.1 == 126) = false := by decide +kernel
theorem jcV13_126 : (jCL.find? (fun q => q.1 == 13 && (q.2.1 == 126 && q.2.2.1 == 0))).map (fun q => q.2.2.2.1) = some 241 := by decide +kernel
theorem jcn13_127 : jOL.any (fun q => q.1 == 13 && q.2.1 == 127) = false := by decide +kernel
theorem jcV13_127 : (jCL.find? (fun q => q.1 == 13 && (q.2.1 == 127 && q.2.2.1 == 0))).map (fun q => q.2.2.2.1) = some 135 := by decide +kernel
theorem jcn13_130 : jOL.any (fun q => q.1 == 13 && q.2.1 == 130) = false := by decide +kernel
theorem jcV13_130 : (jCL.find? (fun q => q.1 == 13 && (q.2.1 == 130 && q.2.2.1 == 0))).map (fun q => q.2.2.2.1) = some 243 := by decide +kernel
theorem jcn13_131 : jOL.any (fun q => q.1 == 13 && q.2.1 == 131) = false := by decide +kernel
theorem jcV13_131 : (jCL.find? (fun q => q.1 == 13 && (q.2.1 == 131 && q.2.2.1 == 0))).map (fun q => q.2.2.2.1) = some 136 := by decide +kernel
theorem jcn13_134 : jOL.any (fun q => q.1 == 13 && q.2.1 == 134) = false := by decide +kernel
theorem jcV13_134 : (jCL.find? (fun q => q.1 == 13 && (q.2.1 == 134 && q.2.2.1 == 0))).map (fun q => q.2.2.2.1) = some 244 := by decide +kernel
theorem jcn13_135 : jOL.any (fun q => q.1 == 13 && q.2.1 == 135) = false := by decide +kernel
theorem jcV13_135 : (jCL.find? (fun q => q.1 == 13 && (q.2.1 == 135 && q.2.2.1 == 0))).map (fun q => q.2.2.2.1) = some 137 := by decide +kernel
theorem jcn13_138 : jOL.any (fun q => q.1 == 13 && q.2.1 == 138) = false := by decide +kernel
theorem jcV13_138 : (jCL.find? (fun q => q.1 == 13 && (q.2.1 == 138 && q.2.2.1 == 0))).map (fun q => q.2.2.2.1) = some 247 := by decide +kernel
theorem jcn13_139 : jOL.any (fun q => q.1 == 13 && q.2.1 == 139) = false := by decide +kernel
theorem jcV13_139 : (jCL.find? (fun q => q.1 == 13 && (q.2.1 == 139 && q.2.2.1 == 0))).map (fun q => q.2.2.2.1) = some 138 := by decide +kernel
theorem jcn13_142 : jOL.any (fun q => q.1 == 13 && q.2.1 == 142) = false := by decide +kernel
theorem jcV13_142 : (jCL.find? (fun q => q.1 == 13 && (q.2.1 == 142 && q.2.2.1 == 0))).map (fun q => q.2.2.2.1) = some 249 := by decide +kernel
theorem jcn13_143 : jOL.any (fun q => q.1 == 13 && q.2.1 == 143) = false := by decide +kernel
theorem jcV13_143 : (jCL.find? (fun q => q.1 == 13 && (q.2.1 == 143 && q.2.2.1 == 0))).map (fun q => q.2.2.2.1) = some 127 := by decide +kernel
theorem jcn13_146 : jOL.any (fun q => q.1 == 13 && q.2.1 == 146) = false := by decide +kernel
theorem jcV13_146 : (jCL.find? (fun q => q.1 == 13 && (q.2.1 == 146 && q.2.2.1 == 0))).map (fun q => q.2.2.2.1) = some 250 := by decide +kernel
theorem jcn13_147 : jOL.any (fun q => q.1 == 13 && q.2.1 == 147) = false := by decide +kernel
theorem jcV13_147 : (jCL.find? (fun q => q.1 == 13 && (q.2.1 == 147 && q.2.2.1 == 0))).map (fun q => q.2.2.2.1) = some 112 := by decide +kernel
theorem jcn13_150 : jOL.any (fun q => q.1 == 13 && q.2.1 == 150) = false := by decide +kernel
theorem jcV13_150 : (jCL.find? (fun q => q.1 == 13 && (q.2.1 == 150 && q.2.2.1 == 0))).map (fun q => q.2.2.2.1) = some 253 := by decide +kernel
theorem jcn13_151 : jOL.any (fun q => q.1 == 13 && q.2.1 == 151) = false := by decide +kernel
theorem jcV13_151 : (jCL.find? (fun q => q.1 == 13 && (q.2.1 == 151 && q.2.2.1 == 0))).map (fun q => q.2.2.2.1) = some 139 := by decide +kernel
theorem jcn13_154 : jOL.any (fun q => q.1 == 13 && q.2.1 == 154) = false := by decide +kernel
theorem jcV13_154 : (jCL.find? (fun q => q.1 == 13 && (q.2.1 == 154 && q.2.2.1 == 0))).map (fun q => q.2.2.2.1) = some 254 := by decide +kernel
theorem jcn13_155 : jOL.any (fun q => q.1 == 13 && q.2.1 == 155) = false := by decide +kernel
theorem jcV13_155 : (jCL.find? (fun q => q.1 == 13 && (q.2.1 == 155 && q.2.2.1 == 0))).map (fun q => q.2.2.2.1) = some 140 := by decide +kernel
theorem jcn13_158 : jOL.any (fun q => q.1 == 13 && q.2.1 == 158) = false := by decide +kernel
theorem jcV13_158 : (jCL.find? (fun q => q.1 == 13 && (q.2.1 == 158 && q.2.2.1 == 0))).map (fun q => q.2.2.2.1) = some 255 := by decide +kernel
theorem jcn17_335 : jOL.any (fun q => q.1 == 17 && q.2.1 == 335) = false := by decide +kernel
theorem jcV17_335 : (jCL.find? (fun q => q.1 == 17 && (q.2.1 == 335 && q.2.2.1 == 0))).map (fun q => q.2.2.2.1) = some 261 := by decide +kernel
theorem jcn17_492 : jOL.any (fun q => q.1 == 17 && q.2.1 == 492) = false := by decide +kernel
theorem jcV17_492 : (jCL.find? (fun q => q.1 == 17 && (q.2.1 == 492 && q.2.2.1 == 0))).map (fun q => q.2.2.2.1) = some 263 := by decide +kernel
theorem jcn17_495 : jOL.any (fun q => q.1 == 17 && q.2.1 == 495) = false := by decide +kernel
theorem jcS17_495 : (jCL.find? (fun q => q.1 == 17 && (q.2.1 == 495 && q.2.2.1 == 1))).map (fun q => q.2.2.2.1) = some 265 := by decide +kernel
theorem jcn17_1059 : jOL.any (fun q => q.1 == 17 && q.2.1 == 1059) = false := by decide +kernel
theorem jcS17_1059 : (jCL.find? (fun q => q.1 == 17 && (q.2.1 == 1059 && q.2.2.1 == 1))).map (fun q => q.2.2.2.1) = some 266 := by decide +kernel
theorem jcn18_9 : jOL.any (fun q => q.1 == 18 && q.2.1 == 9) = false := by decide +kernel
theorem jcS18_9 : (jCL.find? (fun q => q.1 == 18 && (q.2.1 == 9 && q.2.2.1 == 1))).map (fun q => q.2.2.2.1) = some 264 := by decide +kernel
section
variable {d k pc len : Nat} {lv : List (Option Value)} {st : List Value} {h : jH} {Q : Option Value → jH → Prop}
theorem jW_sw {t : Nat} {i : Jvm.ClassFile.Instr} {x : Int32} (hd : decode (jby k) pc = .ok (i, len)) (h0 : (if len = jalen i then jalu i (.int x :: st) else none) = none) (h1 : jldc (jow k) i len = none) (h2 : jlod i len lv = none) (h3 : jsto i len lv (.int x :: st) = none) (hb : jbr pc i len (.int x :: st) = some (t, st)) : jW d k pc lv (.int x :: st) h Q ↔ jW d k t lv st h Q := by
  refine jW_step (t := (t, lv, st, h)) hd ?_
  unfold jstp
  rw [h0, h1, h2, h3, hb]
theorem jW_tab {dflt lo hi off : Int} {offs : Array Int} {t : Nat} {x : Int32} (hd : decode (jby k) pc = .ok (.tableswitch dflt lo hi offs, len)) (h1 : ¬ (x.toInt < lo ∨ hi < x.toInt)) (ho : offs[(x.toInt - lo).toNat]? = some off) (ht : jtg pc off = some t) : jW d k pc lv (.int x :: st) h Q ↔ jW d k t lv st h Q := by
  refine jW_sw hd (by split <;> rfl) (by unfold jldc; rfl) (by unfold jlod; rfl) (by unfold jsto; rfl) ?_
  unfold jbr
  simp only [if_neg h1, ho, ht, Option.map_some]
theorem jW_tabD {dflt lo hi : Int} {offs : Array Int} {t : Nat} {x : Int32} (hd : decode (jby k) pc = .ok (.tableswitch dflt lo hi offs, len)) (h1 : x.toInt < lo ∨ hi < x.toInt) (ht : jtg pc dflt = some t) : jW d k pc lv (.int x :: st) h Q ↔ jW d k t lv st h Q := by
  refine jW_sw hd (by split <;> rfl) (by unfold jldc; rfl) (by unfold jlod; rfl) (by unfold jsto; rfl) ?_
  unfold jbr
  simp only [if_pos h1, ht, Option.map_some]
theorem jW_lk {dflt off : Int} {ps : Array (Int × Int)} {t : Nat} {x : Int32} (hd : decode (jby k) pc = .ok (.lookupswitch dflt ps, len)) (hs : (ps.toList.zip (ps.toList.drop 1)).all (fun (a, next) => a.1 < next.1) = true) (ho : Op.lookupswitch.offset ps.toList dflt x.toInt = off) (ht : jtg pc off = some t) : jW d k pc lv (.int x :: st) h Q ↔ jW d k t lv st h Q := by
  refine jW_sw hd (by split <;> rfl) (by unfold jldc; rfl) (by unfold jlod; rfl) (by unfold jsto; rfl) ?_
  unfold jbr
  simp only [if_pos hs, ho, ht, Option.map_some]
end
