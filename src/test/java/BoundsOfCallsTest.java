/**
 * Each sentence with a boundary in the promises 1 to 37, in their order, with what shows that it
 * holds. That numbers beyond what a call takes are refused, one by one, RefusalsTest shows.
 */
public final class BoundsOfCallsTest {
    private static final Check CHECK = new Check();

    public static void main(String[] args) {
        texts();
        whatTheTextsTell();
        losses();
        reading();
        whoBears();
        years();
        plans();
        sightings();
        longs();
        lotsOfYears();
        sheets();
        items();
        copies();
        writing();
        counting();
        digestOfAll();
        digestInOrder();
        digestOfYears();
        CHECK.end();
    }

    private static void says(String sentence, String script) {
        Script.says(CHECK, sentence, script);
    }

    private static void texts() {
        says("1: No SHIPS, no NAMES, no LINES; all SHEETS are LOST", """
            count 0 = 0
            count 1 = 0
            count 2 = 0
            count 3 = 0
            count 4 = 0
            count 5 = 0
            count 6 = 0
            count 7 = 0
            count 8 = 0
            struck 0 = 0
            forget = 0
            back = NOT
            get 0 0 0 = least
            count 8 = 1
            lose 0 = NULL
            lose 1 = NULL
            lose 2 = NULL
            lose 3 = NULL
            """);
        says("2: A byte (0 to 255) comes behind a text: how many. BAD; FULL", """
            type 0 0 = 1
            type 0 255 = 2
            type 0 -1 = BAD
            type 0 256 = BAD
            type 3 0 = BAD
            type -1 0 = BAD
            count 3 = 2
            wipe 0
            type 0 304 = BAD               # 48, were it cut to a byte
            type 0 -208 = BAD
            23 x type 0 48
            type 0 255 = FULL
            type 0 256 = BAD
            type 0 -1 = BAD
            type 1 48 = 1
            type 2 48 = 1
            count 3 = 23
            """);
        says("3: A text is empty: how many bytes it had. BAD", """
            wipe 0 = 0
            wipe 1 = 0
            wipe 2 = 0
            wipe 3 = BAD
            wipe -1 = BAD
            23 x type 0 48
            39 x type 1 48
            59 x type 2 48
            wipe 1 = 39
            count 3 = 23
            count 5 = 59
            wipe 2 = 59
            wipe 0 = 23
            wipe 0 = 0
            fault 0 = NONE
            type 0 48 = 1
            """);
        says("4: The last byte of a text is undone: how many are left. BAD; NOT: it is empty", """
            undo 0 = NOT
            undo 1 = NOT
            undo 2 = NOT
            undo 3 = BAD
            undo -1 = BAD
            ships 011;022
            undo 0 = 6
            fault 0 = 6
            type 0 57 = 7
            ship 1 1 = 9                   # another byte in the place of the one undone
            type 1 48 = 1
            undo 1 = 0
            undo 1 = NOT
            count 3 = 7
            """);
        says("5: The FAULT of a text; NONE. BAD", """
            fault 0 = NONE
            fault 3 = BAD
            fault -1 = BAD
            type 0 48
            fault 0 = 1
            fault 1 = NONE
            fault 2 = NONE
            """);
    }

    private static void whatTheTextsTell() {
        says("6: WORTH (what = 0), RISK (1) of a SHIP. BAD", """
            ships 019;990
            ship 0 0 = 1
            ship 0 1 = 9
            ship 1 0 = 99
            ship 1 1 = 0
            ship 0 2 = BAD
            ship 0 -1 = BAD
            ship 2 0 = BAD
            ship 2 1 = BAD
            ship -1 0 = BAD
            undo 0
            ship 0 0 = BAD
            """);
        says("7: What it HAS (0), whether it is drowned (1), behind whom (2; as told; NONE)", """
            names 00l.;99dh;50db
            name 0 0 = 0
            name 0 1 = 0
            name 0 2 = NONE
            name 1 0 = 99
            name 1 1 = 1
            name 1 2 = 7                   # as told, though there is no h
            name 2 2 = 1
            name 0 3 = BAD
            name 0 -1 = BAD
            name 3 0 = BAD
            name -1 0 = BAD
            struck 2
            name 2 2 = 1                   # as told, though b is STRUCK
            loss 0 0
            name 1 0 = 99
            """);
        says("8: The SHIP (0), the NAME (1), how much (2), DUE (3) of a LINE. BAD", """
            lines 0a01;5h99
            line 0 0 = 0
            line 0 1 = 0
            line 0 2 = 1
            line 0 3 = 0
            line 1 0 = 5
            line 1 1 = 7
            line 1 2 = 99
            line 0 4 = BAD
            line 0 -1 = BAD
            line 2 0 = BAD
            line -1 0 = BAD
            ships 990
            names 10l.
            line 0 3 = 1
            line 1 3 = 0
            """);
        says("9: STRUCK (0 to 255): what they were. BAD", """
            struck 255 = 0
            struck 256 = BAD
            struck -1 = BAD
            struck 128 = 255
            struck 0 = 128
            struck 0 = 0
            """);
    }

    private static void losses() {
        says("10: A LOSS more: how many. BAD; FULL", """
            loss 0 0 = 1
            loss 29 5 = 2
            loss 30 0 = BAD
            loss -1 0 = BAD
            loss 0 6 = BAD
            loss 0 -1 = BAD
            count 6 = 2
            9 x loss 0 0
            loss 0 0 = 12
            loss 0 0 = FULL
            loss 30 0 = BAD
            loss 0 6 = BAD
            count 6 = 12
            """);
        says("11: The last LOSS is undone: how many are left. NOT: there is none", """
            back = NOT
            ships 100;100
            loss 3 0
            loss 2 1
            behind 29 1 = 3
            back = 1
            behind 29 1 = 1                # the last told, not that of the last YEAR
            back = 0
            behind 29 1 = 0
            back = NOT
            12 x loss 0 0
            back = 11
            loss 0 1 = 12
            behind 0 1 = 3
            loss 0 1 = FULL
            """);
    }

    private static void reading() {
        says("12: LOSSES more, from a SHEET. BAD; NULL", """
            read -1 = BAD
            read 4 = BAD
            read 0 = NULL
            read 3 = NULL
            12 x loss 0 0
            read 0 = NULL
            count 6 = 12
            """);
        says("12: its items, two for each, as many as are whole", """
            ships 100;100
            sheet 0 0 0
            read 0 = 0
            sheet 0 0 1
            read 0 = 0
            sheet 1 1 2
            lay 1 1 0 29
            lay 1 1 1 1
            read 1 = 1
            behind 28 1 = 0
            behind 29 1 = 2                # the YEAR, then the SHIP
            sheet 2 2 3
            read 2 = 1
            count 6 = 2
            get 2 2 0 = 0
            lose 2 = 3                     # the SHEET stays
            """);
        says("12: from item 0 on, in their order", """
            ships 100;100;100
            names 99l.
            lines 0a05;1a06;2a07
            sheet 0 0 6
            lay 0 0 0 3                    # ship 0 in YEAR 3
            lay 0 0 2 2                    # ship 1 in YEAR 2
            lay 0 0 3 1
            lay 0 0 4 1                    # ship 2 in YEAR 1
            lay 0 0 5 2
            read 0 = 3
            behind 1 1 = 4
            behind 2 1 = 6
            behind 3 1 = 7
            back = 2
            behind 29 1 = 3
            """);
        says("12: as long as each may be", """
            sheet 0 1 8
            lay 0 1 0 29
            lay 0 1 1 5
            lay 0 1 2 30                   # no YEAR
            read 0 = 1
            lay 0 1 2 -1
            read 0 = 1
            lay 0 1 2 0
            lay 0 1 3 6                    # no SHIP
            read 0 = 1
            lay 0 1 3 -1
            read 0 = 1
            lay 0 1 3 0
            lay 0 1 0 30
            read 0 = 0                     # what comes behind one that may not be does not count
            count 6 = 4
            """);
        says("12: and there is room: how many came", """
            sheet 0 0 60
            read 0 = 12
            count 6 = 12
            read 0 = 0
            back = 11
            back = 10
            sheet 0 0 4
            read 0 = 2
            back
            read 0 = 1
            new
            11 x loss 0 0
            sheet 0 0 2
            read 0 = 1
            loss 0 0 = FULL
            """);
    }

    private static void whoBears() {
        says("13: BEARER (0; NONE), for whom it is (1), as bits, whether it comes to a RING (2)", """
            names 01lb;01la;01la;01l.;01ld
            bearer 0 0 = NONE
            bearer 2 0 = NONE
            bearer 4 0 = 3
            bearer 0 1 = 0
            bearer 3 1 = 24
            bearer 4 1 = 0
            bearer 2 2 = 1
            bearer 4 2 = 0
            bearer 0 3 = BAD
            bearer 0 -1 = BAD
            bearer 5 0 = BAD
            bearer -1 0 = BAD
            """);
        says("14: BORNE. BAD", """
            ships 100;200
            names 01l.;01la
            lines 0a01;0b02;1b04
            borne 0 0 = 3
            borne 1 0 = 4
            borne 1 1 = 0
            borne 2 0 = BAD
            borne -1 0 = BAD
            borne 0 2 = BAD
            borne 0 -1 = BAD
            """);
        says("15: UNBORNE. BAD", """
            ships 100;200
            names 01lb;01la
            lines 0a01;0b02;1b04
            unborne 0 = 3
            unborne 1 = 4
            unborne 2 = BAD
            unborne -1 = BAD
            """);
    }

    private static void years() {
        says("16: What a NAME has left. BAD", """
            ships 990
            names 20l.;00l.
            lines 0a19
            left 0 0 = 20
            left 29 1 = 0
            loss 29 0
            left 28 0 = 20
            left 29 0 = 1
            left 30 0 = BAD
            left -1 0 = BAD
            left 0 2 = BAD
            left 0 -1 = BAD
            """);
        says("17: Who is broken (0), SHIPS that are lost (1), as bits. BAD", """
            behind 0 0 = 0
            behind 29 1 = 0
            ships 990;990;990;990;990;990
            names 00l.;00l.;00l.;00l.;00l.;00l.;00l.;00l.
            lines 0a01;1h01
            loss 29 0
            loss 0 1
            loss 1 5
            behind 0 0 = 128
            behind 0 1 = 2
            behind 1 1 = 34
            behind 28 0 = 128
            behind 29 0 = 129
            behind 29 1 = 35
            behind 30 0 = BAD
            behind -1 0 = BAD
            behind 0 2 = BAD
            behind 0 -1 = BAD
            """);
        says("18: PAID. BAD", """
            ships 990;990
            names 99l.
            lines 0a99;1a99
            loss 29 0
            paid 28 0 = 0
            paid 29 0 = 99
            paid 29 1 = 0
            paid 30 0 = BAD
            paid -1 0 = BAD
            paid 0 2 = BAD
            paid 0 -1 = BAD
            """);
        says("19: FIRST: the YEAR (0), who (1); NONE. BAD", """
            first 0 = NONE
            first 1 = NONE
            first 2 = BAD
            first -1 = BAD
            ships 990
            names 00l.
            lines 0a01
            first 0 = NONE
            loss 29 0
            first 0 = 29
            first 1 = 0
            loss 0 0
            first 0 = 0
            back
            back
            first 1 = NONE
            """);
    }

    private static void plans() {
        says("20: SAFE, as bits", """
            safe = 0
            ships 990;990;990;990;990;990
            safe = 63
            names 05l.
            lines 0a06;5a05
            safe = 62
            lines 0a05;5a06
            safe = 31
            """);
        says("21: TAKE, as bits; NONE. BAD", """
            take 0 = BAD
            ships 010;990
            take 0 = NONE
            names 99l.;98l.;01l.
            take 0 = 4
            take 1 = 1
            struck 1
            take 1 = 6
            struck 5
            take 1 = NONE
            take 2 = BAD
            take -1 = BAD
            """);
        says("21: of eight NAMES, too", """
            ships 800;810
            names 10l.;10l.;10l.;10l.;10l.;10l.;10l.;10l.
            take 0 = 255
            take 1 = NONE
            """);
        says("22: STRIKE of another one for a NAME, as any number. BAD: -1002", """
            strike 0 0 = -1002
            ships 990
            names 10l.;10la
            lines 0b02
            strike 0 1 = -2                # no refusal
            strike 1 0 = 2
            strike 1 1 = 0
            strike 2 0 = -1002
            strike -1 0 = -1002
            strike 0 2 = -1002
            strike 0 -1 = -1002
            struck 0 = 0                   # nothing is STRUCK by it
            borne 0 0 = 2
            """);
    }

    private static void sightings() {
        says("23: SEEN more: how many. BAD; FULL", """
            seen 0 0 = 1
            seen 5 999 = 2
            seen 6 0 = BAD
            seen -1 0 = BAD
            seen 0 1000 = BAD
            seen 0 -1 = BAD
            count 7 = 2
            5 x seen 0 0
            seen 0 0 = 8
            seen 0 0 = FULL
            seen 6 0 = BAD
            seen 0 1000 = BAD
            count 7 = 8
            """);
        says("24: All SEEN are forgotten: how many", """
            forget = 0
            seen 0 1
            sound 0 = 0
            forget = 1
            sound 0 = 1
            8 x seen 0 0
            forget = 8
            forget = 0
            seen 0 0 = 1
            """);
        says("25: SOUND: how many (0), the least (1; NONE). BAD", """
            sound 0 = 1
            sound 1 = 0
            sound 2 = BAD
            sound -1 = BAD
            names 01l.;01l.
            sound 0 = 4
            ships 990
            lines 0a01;0b01
            seen 0 2
            sound 0 = 1
            sound 1 = 3
            seen 0 999
            sound 0 = 0
            sound 1 = NONE
            """);
        says("26: PRESS; NONE", """
            press = NONE
            ships 990;990;990;990;990;990
            press = 0
            names 01l.
            lines 5a01
            press = 5
            wipe 0
            press = NONE
            """);
    }

    private static void longs() {
        says("27: FAIR: above, below. BAD. (As the least long and x more.)", """
            fair 0 0 = BADlong
            ships 992
            names 01l.;01l.
            lines 0a04
            fair 0 0 = 1
            fair 0 1 = 2
            fair 1 0 = 0
            fair 1 1 = 1
            fair 0 2 = BADlong
            fair 0 -1 = BADlong
            fair 2 0 = BADlong
            fair -1 0 = BADlong
            """);
        says("28: STORM: above, below. BAD. (As the least long and x more.)", """
            storm 0 0 0 = BADlong
            names 00l.;99l.
            storm 0 0 0 = 1                # no SHIPS
            storm 0 0 1 = 1
            storm 0 1 0 = 0
            storm 0 1 1 = 1
            storm 1 99 0 = 1
            storm 0 -1 0 = BADlong
            storm 0 100 0 = BADlong
            storm 0 0 2 = BADlong
            storm 0 0 -1 = BADlong
            storm 2 0 0 = BADlong
            storm -1 0 0 = BADlong
            """);
    }

    private static void lotsOfYears() {
        says("29: YEARS: what a NAME has left (0), how many SHIPS are lost (1). BAD", """
            years 0 1 0 0 = BAD
            ships 019;019;019;019;019;019
            names 50l.
            lines 0a01;1a01;2a01;3a01;4a01;5a01
            years 0 30 0 1 = 6
            years 0 30 0 0 = 44
            years least 30 0 1 = 6
            years most 30 0 1 = 6
            years 0 1 0 1 = 3              # the LOTS 0, 12, 4, 5, 10, 15
            years 0 1 0 0 = 47
            years 0 0 0 0 = BAD
            years 0 31 0 0 = BAD
            years 0 1 1 0 = BAD
            years 0 1 -1 0 = BAD
            years 0 1 0 2 = BAD
            years 0 1 0 -1 = BAD
            """);
    }

    private static void sheets() {
        says("30: A SHEET is a new row of a FORM with n items: n. BAD: SHEET, FORM, above 60; SIZE", """
            sheet 0 0 0 = 0
            sheet 3 2 60 = 60
            sheet 3 2 61 = BAD
            sheet 3 2 most = BAD
            sheet 3 3 60 = BAD
            sheet 3 -1 60 = BAD
            sheet 4 2 60 = BAD
            sheet -1 2 60 = BAD
            count 8 = 0
            lay 3 2 59 9
            sheet 3 0 -1 = SIZE
            count 8 = 5
            sheet 4 0 -1 = BAD
            sheet 3 3 -1 = BAD
            sheet 3 0 least = SIZE
            get 3 2 59 = 9                 # a refused call changes nothing
            sheet 3 2 60 = 60
            get 3 2 59 = 0                 # a new row
            sheet 3 1 1 = 1
            get 3 2 0 = least
            count 8 = 3
            """);
        says("31: It is LOST: how many items it had. BAD; NULL", """
            lose 0 = NULL
            lose 4 = BAD
            lose -1 = BAD
            sheet 0 0 0
            sheet 3 0 60
            lose 3 = 60
            lose 0 = 0
            lose 0 = NULL
            lose 3 = NULL
            sheet 0 0 5
            lose 0 = 5
            """);
    }

    private static void items() {
        says("32: Item i, treated as of a FORM, becomes v: 1. BAD; NULL; CAST; INDEX", """
            lay 0 0 0 0 = NULL
            lay 0 3 0 0 = BAD              # ahead of NULL
            lay 0 -1 0 0 = BAD
            lay 4 0 0 0 = BAD
            lay -1 0 0 0 = BAD
            sheet 0 1 3
            lay 0 1 0 1 = 1
            lay 0 1 2 1 = 1
            lay 0 1 3 1 = INDEX
            lay 0 1 -1 1 = INDEX
            lay 0 0 3 1 = CAST             # ahead of INDEX
            lay 0 2 -1 1 = CAST
            lay 0 3 3 1 = BAD
            sheet 0 1 0
            lay 0 1 0 1 = INDEX
            lay 0 2 0 1 = CAST
            lose 0
            lay 0 2 9 1 = NULL             # ahead of CAST and INDEX
            """);
        says("32: the lowest bits that it has, with its sign", """
            sheet 0 0 2
            sheet 1 1 2
            sheet 2 2 2
            lay 0 0 1 255
            get 0 0 1 = -1
            lay 0 0 1 256
            get 0 0 1 = 0
            lay 0 0 1 least
            get 0 0 1 = 0
            lay 0 0 1 most
            get 0 0 1 = -1
            get 0 0 0 = 0
            lay 1 1 1 65535
            get 1 1 1 = -1
            lay 1 1 1 65536
            get 1 1 1 = 0
            lay 1 1 1 least
            get 1 1 1 = 0
            lay 1 1 1 most
            get 1 1 1 = -1
            lay 2 2 1 least
            get 2 2 1 = least
            lay 2 2 1 most
            get 2 2 1 = most
            lay 2 2 1 65536
            get 2 2 1 = 65536
            """);
        says("33: Item i of it. BAD: the least int; so are NULL, CAST, INDEX (count() 8 tells)", """
            get 4 0 0 = least
            get -1 0 0 = least
            get 0 3 0 = least
            get 0 -1 0 = least
            count 8 = 0                    # what is BAD is no FINDING
            get 0 0 0 = least
            count 8 = 1
            sheet 0 1 2
            lay 0 1 1 7
            get 0 1 1 = 7
            get 0 1 2 = least
            count 8 = 2
            get 0 0 2 = least              # CAST ahead of INDEX
            count 8 = 3
            get 0 1 -1 = least
            count 8 = 2
            get 0 2 0 = least
            count 8 = 3
            get 0 3 2 = least
            count 8 = 3
            get 1 2 9 = least              # NULL ahead of both
            count 8 = 1
            get 0 1 0 = 0
            count 8 = 1
            """);
    }

    private static void copies() {
        says("34: n items of SHEET s, from i on, come to SHEET t (perhaps s, as they were)", """
            sheet 0 0 4
            lay 0 0 0 1
            lay 0 0 1 2
            lay 0 0 2 3
            lay 0 0 3 4
            copy 0 0 0 1 3 = 1
            get 0 0 0 = 1
            get 0 0 1 = 1
            get 0 0 2 = 2
            get 0 0 3 = 3
            copy 0 1 0 0 3 = 1
            get 0 0 0 = 1
            get 0 0 1 = 2
            get 0 0 2 = 3
            get 0 0 3 = 3
            sheet 1 0 2
            copy 0 2 1 0 2 = 1
            get 1 0 0 = 3
            get 1 0 1 = 3
            """);
        says("34: BAD: the SHEETS; NULL: s, t; STORE", """
            sheet 0 0 4
            copy 4 0 0 0 0 = BAD
            copy -1 0 0 0 0 = BAD
            copy 0 0 4 0 0 = BAD
            copy 0 0 -1 0 0 = BAD
            copy 1 0 4 0 0 = BAD           # ahead of NULL
            copy 4 0 1 0 0 = BAD
            count 8 = 0
            copy 1 0 0 0 0 = NULL
            copy 0 0 1 0 0 = NULL
            copy 1 0 1 0 0 = NULL
            copy 1 -1 0 0 0 = NULL         # ahead of INDEX
            sheet 1 1 4
            copy 0 0 1 0 0 = STORE
            copy 0 -1 1 0 9 = STORE        # ahead of INDEX
            copy 1 0 2 0 0 = NULL          # ahead of STORE
            """);
        says("34: INDEX: below 0, not so many (with n 0, too, if i or j is above how many)", """
            sheet 0 0 4
            sheet 1 0 3
            copy 0 -1 1 0 1 = INDEX
            copy 0 0 1 -1 1 = INDEX
            copy 0 0 1 0 -1 = INDEX
            copy 0 0 1 0 3 = 1
            copy 0 1 1 0 3 = 1
            copy 0 2 1 0 3 = INDEX         # not so many of s
            copy 0 0 1 1 3 = INDEX         # of t
            copy 0 0 1 0 4 = INDEX
            copy 0 4 1 3 0 = 1
            copy 0 5 1 3 0 = INDEX
            copy 0 4 1 4 0 = INDEX
            copy 0 -1 1 0 0 = INDEX
            copy 0 0 1 -1 0 = INDEX
            copy 0 5 1 0 -1 = INDEX
            copy 0 most 1 0 1 = INDEX
            copy 0 0 1 most 1 = INDEX
            copy 0 1 1 0 most = INDEX      # however far i and n go together
            copy 0 0 1 1 most = INDEX
            copy 0 most 1 most most = INDEX
            copy 0 least 1 0 least = INDEX
            copy 0 least 1 least 0 = INDEX
            sheet 2 0 0
            copy 2 0 2 0 0 = 1
            copy 2 0 0 4 0 = 1
            copy 2 0 0 0 1 = INDEX
            """);
    }

    private static void writing() {
        says("35: What NAMES 0 on have left behind a YEAR comes to a SHEET from item 0 on", """
            ships 990
            names 20l.;99l.
            lines 0a05
            loss 29 0
            sheet 0 0 3
            lay 0 0 0 -1
            lay 0 0 1 -1
            lay 0 0 2 -1
            write 28 0 = 2                 # fewer NAMES than items
            get 0 0 0 = 20
            get 0 0 1 = 99
            get 0 0 2 = -1
            write 29 0 = 2
            get 0 0 0 = 15
            sheet 0 1 1
            write 29 0 = 1                 # fewer items than NAMES
            get 0 1 0 = 15
            sheet 0 2 2
            write 0 0 = 2
            get 0 2 1 = 99
            """);
        says("35: as many as there are items and NAMES: how many", """
            sheet 0 0 5
            write 0 0 = 0
            names 01l.;02l.;03l.;04l.;05l.;06l.;07l.;08l.
            sheet 0 0 0
            write 0 0 = 0
            sheet 0 0 60
            write 0 0 = 8
            get 0 0 7 = 8
            get 0 0 8 = 0
            sheet 0 0 7
            write 0 0 = 7
            type 1 59 = FULL
            undo 1
            write 0 0 = 0                  # with a FAULT no NAMES
            get 0 0 6 = 7
            """);
        says("35: BAD; NULL", """
            write -1 0 = BAD               # ahead of NULL
            write 30 0 = BAD
            write 0 4 = BAD
            write 0 -1 = BAD
            count 8 = 0
            write 0 0 = NULL
            write 29 3 = NULL
            count 8 = 1
            """);
    }

    private static void counting() {
        says("36: 0 SHIPS, 1 NAMES, 2 LINES, 3 to 5 bytes of texts, 6 LOSSES, 7 SEEN", """
            ships 010
            names 01l.;01l.
            lines 0a01;0a01;0a01
            4 x loss 0 0
            5 x seen 0 0
            count 0 = 1
            count 1 = 2
            count 2 = 3
            count 3 = 3
            count 4 = 9
            count 5 = 14
            count 6 = 4
            count 7 = 5
            count 9 = BAD
            count -1 = BAD
            ships 010;010;010;010;010;010
            names 01l.;01l.;01l.;01l.;01l.;01l.;01l.;01l.
            lines 0a01;0a01;0a01;0a01;0a01;0a01;0a01;0a01;0a01;0a01;0a01;0a01
            8 x loss 0 0
            3 x seen 0 0
            count 0 = 6
            count 1 = 8
            count 2 = 12
            count 3 = 23
            count 4 = 39
            count 5 = 59
            count 6 = 12
            count 7 = 8
            """);
        says("36: 8 the number of the latest FINDING (0 before any)", """
            count 8 = 0
            type 3 0
            undo 0
            back
            count 8 = 0                    # other refusals are no FINDINGS
            sheet 0 0 -1
            count 8 = 5
            lose 1
            count 8 = 1
            sheet 0 0 1 = 1
            count 8 = 1                    # what goes well changes it no more
            type 3 0 = BAD
            count 8 = 1
            """);
    }

    private static void folds(String sentence, String script, long... told) {
        Script x = new Script(CHECK);
        x.run("37: " + sentence, script);
        long h = 17;
        for (long each : told) {
            h = 31 * h + each;
        }
        CHECK.due("37: " + sentence, x.call("digest"), h);
    }

    private static void digestOfAll() {
        folds("nothing there", "",
            0, 0, 0, 0, 0, 0, 0, 0, -1, -1, -1,
            0, 0, 0, 0, 0, 0, -1, -1, 0, 1, 0, -1);
        folds("of no SHEETS, no STRUCK, no FINDINGS", """
            sheet 0 2 60
            lay 0 2 0 7
            struck 255
            lose 3
            """,
            0, 0, 0, 0, 0, 0, 0, 0, -1, -1, -1,
            0, 0, 0, 0, 0, 0, -1, -1, 0, 1, 0, -1);
        folds("of texts fault()", "ships 0\nnames 00\nlines 0a00",
            0, 0, 0, 1, 2, 4, 0, 0, 1, 2, 3,
            0, 0, 0, 0, 0, 0, -1, -1, 0, 1, 0, -1);
        folds("borne(it, 0) (as it is told): BAD", "ships 109;205\nloss 0 0\nloss 9 4",
            2, 0, 0, 7, 0, 0, 2, 0, -1, -1, -1,
            10, 9, 0, -2, 0, -1,
            20, 5, 0, -2, 0, -1,
            0, 1, 0, 1, 0, 1, -1, -1, 3, 1, 0, 0);
        folds("NAMES and LINES of nothing; no set is sound", "names 05dh\nlines 5h99\nseen 5 999",
            0, 1, 1, 0, 4, 4, 0, 1, -1, -1, -1,
            5, 1, 7, 0, 1, 0, 5, 0, 0, 1, 0, 1, 5, 0,
            5, 7, 99, 0,
            0, 0, 0, 0, 0, 0, -1, -1, 0, 0, -1, -1);
    }

    private static void digestInOrder() {
        // From SEED 7 the LOTS are 12, 14, then 4: with a RISK of 5 ship 0 is lost in YEAR 1.
        // b stands behind a, c behind itself; of 25 for 20: a 8, b 4, c 8, all lost behind YEAR 9.
        folds("of each thing all that is told of it, then of the next one", """
            ships 205;110
            names 12l.;30da;09lc
            lines 0a10;0b05;0c10;1b08
            loss 9 0
            loss 29 1
            seen 1 8
            """,
            2, 3, 4, 7, 14, 19, 2, 1, -1, -1, -1,
            20, 5, 0, 12, 20, 2,
            11, 0, 0, 8, 0, 1,
            12, 0, -1, 0, 3, 0, 0, -20, 15, 4, 11, 16, 0, 1,
            30, 1, 0, 0, 0, 0, 30, -10, 0, 1, 1, 1, 30, 1,
            9, 0, 2, 2, 4, 0, 1, 3, 5, 2, 11, 16, 1, 1,
            0, 0, 10, 8,
            0, 1, 5, 4,
            0, 2, 10, 8,
            1, 1, 8, 8,
            0, 0, 0, 1, 1, 3,
            29, 0, 3, 4, 1, 0);
    }

    private static void digestOfYears() {
        folds("of YEARS 0, 9, 29: lost in 1", "ships 100\nnames 15l.\nlines 0a05\nloss 1 0",
            1, 1, 1, 3, 4, 4, 1, 0, -1, -1, -1,
            10, 0, 0, 5, 5, 1,
            15, 0, -1, 0, 1, 0, 10, -5, 0, 1, 1, 1, 15, 0,
            0, 0, 5, 5,
            0, 0, 0, 1, 0, 1, -1, -1, 1, 2, 0, 0);
        folds("of YEARS 0, 9, 29: lost in 10", "ships 100\nnames 15l.\nlines 0a05\nloss 10 0",
            1, 1, 1, 3, 4, 4, 1, 0, -1, -1, -1,
            10, 0, 0, 5, 0, 1,
            15, 0, -1, 0, 1, 0, 15, -5, 0, 1, 1, 1, 15, 0,
            0, 0, 5, 5,
            0, 0, 0, 0, 0, 1, -1, -1, 1, 2, 0, 0);
        // a and b in a ring; b has 9, c 8.
        folds("unborne(), storm(it, 9)", "ships 100\nnames 15lb;09la;08l.\nlines 0a05;0b02",
            1, 3, 2, 3, 14, 9, 0, 0, -1, -1, -1,
            10, 0, 7, 0, 0, 1,
            15, 0, 1, -1, 0, 1, 15, 0, 0, 1, 1, 1, 15, 0,
            9, 0, 0, -1, 0, 1, 9, 5, 0, 1, 1, 1, 9, 0,
            8, 0, -1, 2, 4, 0, 8, 0, 0, 1, 0, 1, 8, 0,
            0, 0, 5, 5,
            0, 1, 2, 2,
            0, 0, 0, 0, 0, 0, -1, -1, 1, 8, 0, 0);
        // a has 8 left if the ship is lost, b 9.
        folds("storm(it, 9), above, below", "ships 101\nnames 12l.;13l.\nlines 0a04;0b04",
            1, 2, 2, 3, 9, 9, 0, 0, -1, -1, -1,
            10, 1, 0, 4, 0, 1,
            12, 0, -1, 0, 1, 0, 12, -4, 1, 4, 15, 16, 12, 0,
            13, 0, -1, 1, 2, 0, 13, 0, 1, 4, 1, 1, 13, 0,
            0, 0, 4, 4,
            0, 1, 4, 4,
            0, 0, 0, 0, 0, 0, -1, -1, 1, 4, 0, 0);
        digestOfLots();
    }

    private static void digestOfLots() {
        // From SEED 7 the LOTS are 12, 14, 4, 2, 3, 5, 2, 14, 1: the ninth is less than 2.
        folds("years(7, 9, it): the ninth YEAR", "ships 102\nnames 20l.\nlines 0a01",
            1, 1, 1, 3, 4, 4, 0, 0, -1, -1, -1,
            10, 2, 0, 1, 0, 1,
            20, 0, -1, 0, 1, 0, 20, -1, 1, 8, 1, 1, 19, 1,
            0, 0, 1, 1,
            0, 0, 0, 0, 0, 0, -1, -1, 1, 2, 0, 0);
        // Two SHIPS: the ninth LOT is ship 0's in YEAR 4; from SEED 6 or 8 it is never lost by then.
        folds("years(7, 9, it): SEED 7", "ships 102;100\nnames 20l.\nlines 0a01",
            2, 1, 1, 7, 4, 4, 0, 0, -1, -1, -1,
            10, 2, 0, 1, 0, 1,
            10, 0, 0, 0, 0, 1,
            20, 0, -1, 0, 1, 0, 20, -1, 1, 8, 1, 1, 19, 1,
            0, 0, 1, 1,
            0, 0, 0, 0, 0, 0, -1, -1, 3, 2, 0, 0);
        // Ships 0 and 1 are lost in YEAR 2; ship 3 would be in YEAR 9, the tenth.
        folds("years(7, 9, it): not the tenth YEAR",
            "ships 102;102;100;102\nnames 20l.\nlines 0a01;1a02;3a04",
            4, 1, 3, 15, 4, 14, 0, 0, -1, -1, -1,
            10, 2, 0, 1, 0, 1,
            10, 2, 0, 2, 0, 1,
            10, 0, 0, 0, 0, 1,
            10, 2, 0, 4, 0, 1,
            20, 0, -1, 0, 1, 0, 20, -7, 7, 8, 1, 1, 17, 2,
            0, 0, 1, 1,
            1, 0, 2, 2,
            3, 0, 4, 4,
            0, 0, 0, 0, 0, 0, -1, -1, 15, 2, 0, 0);
    }
}
