/**
 * Each sentence with a boundary in the first paragraph, in "Terms" and in the passages behind it,
 * in the document's order, with what shows that it holds.
 */
public final class BoundsOfTermsTest {
    private static final Check CHECK = new Check();

    public static void main(String[] args) {
        shipTexts();
        nameTexts();
        lineTexts();
        faults();
        struckOnes();
        bearers();
        dues();
        yearsAndLosses();
        breaking();
        fractions();
        lots();
        sheetsAndFindings();
        whoBears();
        behindYears();
        plans();
        sightings();
        storms();
        CHECK.end();
    }

    private static void says(String sentence, String script) {
        Script.says(CHECK, sentence, script);
    }

    private static void shipTexts() {
        says("SHIPS are a text of up to 23 bytes (text 0)", """
            22 x type 0 48
            type 0 48 = 23
            type 0 48 = FULL
            type 0 59 = FULL
            count 3 = 23
            undo 0 = 22
            type 0 59 = 23
            """);
        says("SHIPS: 6 at most (0 on), with ; between them", """
            count 0 = 0
            ship 0 0 = BAD
            ships 011;022;033;044;055;066
            fault 0 = NONE
            count 0 = 6
            ship 0 0 = 1
            ship 0 1 = 1
            ship 5 0 = 6
            ship 5 1 = 6
            ship 6 0 = BAD
            ship -1 0 = BAD
            type 0 59 = FULL
            count 0 = 6
            ships 011:022
            fault 0 = 3
            ships 011022
            fault 0 = 3
            ships ;011
            fault 0 = 0
            ships 011;;022
            fault 0 = 4
            ships 011;02;022
            fault 0 = 6
            """);
        says("two figures, what each is WORTH (01 to 99)", """
            ships 010
            fault 0 = NONE
            ship 0 0 = 1
            ships 990
            ship 0 0 = 99
            ships 100
            ship 0 0 = 10
            ships 090
            ship 0 0 = 9
            ships 000
            fault 0 = 1
            count 0 = 0
            ships 010;000
            fault 0 = 5
            count 0 = 0
            ships /90
            fault 0 = 0
            ships :90
            fault 0 = 0
            ships 9/0
            fault 0 = 1
            ships 9:0
            fault 0 = 1
            """);
        says("and a figure, its RISK (0 to 9 sixteenths of being lost in a YEAR)", """
            names 10l.
            lines 0a10
            ships 100
            ship 0 1 = 0
            storm 0 10 0 = 1
            storm 0 10 1 = 1
            ships 109
            ship 0 1 = 9
            storm 0 10 0 = 7
            storm 0 10 1 = 16
            ships 10/
            fault 0 = 2
            ships 10:
            fault 0 = 2
            """);
        says("An object is used for at most 512 calls after it has been made", """
            510 x type 0 48
            undo 0 = 22
            type 0 48 = 23
            new
            511 x undo 0
            digest = -2445696101255522802
            new
            digest = -2445696101255522802
            """);
    }

    private static void nameTexts() {
        says("NAMES are a text of up to 39 bytes (text 1)", """
            38 x type 1 48
            type 1 48 = 39
            type 1 48 = FULL
            count 4 = 39
            undo 1 = 38
            """);
        says("NAMES: 8 at most (0 on), with ; between them", """
            count 1 = 0
            name 0 0 = BAD
            names 01l.;02d.;03l.;04d.;05l.;06d.;07l.;08d.
            fault 1 = NONE
            count 1 = 8
            name 0 0 = 1
            name 0 1 = 0
            name 7 0 = 8
            name 7 1 = 1
            name 8 0 = BAD
            name -1 0 = BAD
            type 1 59 = FULL
            names 01l.02d.
            fault 1 = 4
            names 01l.:02d.
            fault 1 = 4
            names ;01l.
            fault 1 = 0
            names 01l.;;02d.
            fault 1 = 5
            """);
        says("two figures, what one HAS (00 to 99)", """
            names 00l.
            fault 1 = NONE
            name 0 0 = 0
            names 99l.
            name 0 0 = 99
            names 0:l.
            fault 1 = 1
            names 0/l.
            fault 1 = 1
            names :0l.
            fault 1 = 0
            names /0l.
            fault 1 = 0
            """);
        says("a letter: l (living) or d (drowned)", """
            names 01l.
            name 0 1 = 0
            names 01d.
            name 0 1 = 1
            names 01k.
            fault 1 = 2
            names 01m.
            fault 1 = 2
            names 01c.
            fault 1 = 2
            names 01e.
            fault 1 = 2
            names 01D.
            fault 1 = 2
            """);
        says("whose it stands behind: . (its own), or a letter a to h", """
            names 01l.
            name 0 2 = NONE
            names 01la
            name 0 2 = 0
            names 01lh
            name 0 2 = 7
            names 01l`
            fault 1 = 3
            names 01li
            fault 1 = 3
            names 01l/
            fault 1 = 3
            names 01l-
            fault 1 = 3
            names 01lA
            fault 1 = 3
            """);
        says("all that it owes is owed by that NAME instead", """
            ships 500
            names 40lb;09l.
            lines 0a10
            loss 0 0
            left 0 0 = 40
            left 0 1 = 0
            behind 0 0 = 2
            """);
    }

    private static void lineTexts() {
        says("LINES are a text of up to 59 bytes (text 2)", """
            58 x type 2 48
            type 2 48 = 59
            type 2 48 = FULL
            count 5 = 59
            undo 2 = 58
            """);
        says("LINES: 12 at most (0 on), with ; between them", """
            count 2 = 0
            line 0 0 = BAD
            lines 0a01;0a02;0a03;0a04;0a05;0a06;0a07;0a08;0a09;0a10;0a11;5h12
            fault 2 = NONE
            count 2 = 12
            line 0 2 = 1
            line 11 2 = 12
            line 12 2 = BAD
            line -1 2 = BAD
            type 2 59 = FULL
            lines 0a010a02
            fault 2 = 4
            lines 0a01:0a02
            fault 2 = 4
            lines ;0a01
            fault 2 = 0
            lines 0a01;;0a02
            fault 2 = 5
            """);
        says("the figure of a SHIP (0 to 5)", """
            lines 0a01
            line 0 0 = 0
            lines 5a01
            line 0 0 = 5
            lines 6a01
            fault 2 = 0
            lines /a01
            fault 2 = 0
            """);
        says("the letter of a NAME (a to h)", """
            lines 0a01
            line 0 1 = 0
            lines 0h01
            line 0 1 = 7
            lines 0i01
            fault 2 = 1
            lines 0`01
            fault 2 = 1
            lines 0.01
            fault 2 = 1
            lines 0A01
            fault 2 = 1
            """);
        says("and two figures (01 to 99), how much of it that NAME takes", """
            lines 0a01
            line 0 2 = 1
            lines 0a99
            line 0 2 = 99
            lines 0a10
            line 0 2 = 10
            lines 0a00
            fault 2 = 3
            lines 0a01;0a00
            fault 2 = 8
            lines 0a0/
            fault 2 = 3
            lines 0a0:
            fault 2 = 3
            lines 0a/0
            fault 2 = 2
            lines 0a:0
            fault 2 = 2
            """);
    }

    private static void faults() {
        says("The FAULT of a text is the place of the first byte with which it cannot go on", """
            ships x
            fault 0 = 0
            ships x0x
            fault 0 = 0
            ships 011;0x1;x
            fault 0 = 5
            names 01x.x
            fault 1 = 2
            lines 0a01;0a01;x
            fault 2 = 10
            type 0 0
            wipe 0
            type 0 0
            fault 0 = 0
            wipe 0
            type 0 255
            fault 0 = 0
            wipe 0
            type 0 304                     # no byte
            fault 0 = NONE
            """);
        says("an empty one is well", """
            fault 0 = NONE
            fault 1 = NONE
            fault 2 = NONE
            type 0 48
            undo 0
            fault 0 = NONE
            type 1 120
            wipe 1
            fault 1 = NONE
            """);
        says("of one that is not ended, as behind a ;, its end", """
            ships 0
            fault 0 = 1
            ships 01
            fault 0 = 2
            ships 011
            fault 0 = NONE
            ships 011;
            fault 0 = 4
            ships 011;0
            fault 0 = 5
            names 0
            fault 1 = 1
            names 00
            fault 1 = 2
            names 00l
            fault 1 = 3
            names 00l.;
            fault 1 = 5
            lines 0
            fault 2 = 1
            lines 0a
            fault 2 = 2
            lines 0a0
            fault 2 = 3
            lines 0a01;
            fault 2 = 5
            lines 0a01;0a01;0a01;0a01;0a01;0a01;0a01;0a01;0a01;0a01;0a01;0a0
            fault 2 = 58
            """);
        says("here also of the second figure of a 00 (WORTH, a LINE)", """
            ships 00
            fault 0 = 1
            ships 001;011
            fault 0 = 1
            names 00l.
            fault 1 = NONE
            lines 0a00;0a01
            fault 2 = 3
            """);
        // One too many never comes: the room of each text ends with the last one allowed.
        says("or of the first byte of one too many", """
            ships 010;010;010;010;010;010
            type 0 59 = FULL
            fault 0 = NONE
            names 00l.;00l.;00l.;00l.;00l.;00l.;00l.;00l.
            type 1 59 = FULL
            fault 1 = NONE
            lines 0a01;0a01;0a01;0a01;0a01;0a01;0a01;0a01;0a01;0a01;0a01;0a01
            type 2 59 = FULL
            fault 2 = NONE
            """);
        withAFault();
    }

    private static void withAFault() {
        says("With a FAULT a text is as if it was empty", """
            ships 101;102
            names 20l.;03d.
            lines 0a05;1b06
            loss 0 0
            seen 0 5
            type 0 59
            count 0 = 0
            count 1 = 2
            count 2 = 2
            ship 0 0 = BAD
            line 0 2 = 5
            line 0 3 = 0
            borne 0 0 = BAD
            unborne 0 = BAD
            left 29 0 = 20
            behind 29 1 = 0
            safe = 0
            take 0 = BAD
            sound 0 = 0
            press = NONE
            fair 0 0 = 0
            count 6 = 1
            count 7 = 1
            undo 0
            count 0 = 2
            line 0 3 = 5
            left 29 0 = 15
            type 1 59
            count 0 = 2
            count 1 = 0
            name 0 0 = BAD
            bearer 0 0 = BAD
            left 29 0 = BAD
            line 0 1 = 0
            line 0 3 = 0
            paid 29 0 = 0
            behind 29 1 = 1
            take 0 = NONE
            sound 0 = 0
            press = 0
            undo 1
            left 29 0 = 15
            type 2 59
            count 1 = 2
            count 2 = 0
            line 0 0 = BAD
            borne 0 0 = 0
            left 29 0 = 20
            behind 29 1 = 1
            safe = 3
            undo 2
            left 29 0 = 15
            """);
    }

    private static void struckOnes() {
        says("STRUCK are NAMES (bits of 0 to 7; none at first)", """
            struck 0 = 0
            ships 990
            names 10l.;10l.;10l.;10l.;10l.;10l.;10l.;10l.
            lines 0a01;0b02;0c03;0d04;0e05;0f06;0g07;0h08
            struck 1 = 0
            line 0 3 = 0
            line 1 3 = 2
            line 7 3 = 8
            struck 128 = 1
            line 0 3 = 1
            line 6 3 = 7
            line 7 3 = 0
            struck 255 = 128
            line 0 3 = 0
            line 7 3 = 0
            struck 0 = 255
            line 7 3 = 8
            """);
        says("a LINE of a STRUCK one is void, and nobody stands behind one any more", """
            ships 100
            names 10l.;20la;30lb
            lines 0a02;0b03;0c04
            struck 2
            line 1 3 = 0
            line 0 3 = 2
            line 2 3 = 4
            bearer 2 0 = 2
            bearer 1 0 = 0                 # the struck one itself stands behind a
            bearer 0 1 = 3
            borne 0 0 = 2
            borne 0 1 = 0
            borne 0 2 = 4
            struck 128                     # of a NAME that there is not
            bearer 2 0 = 0
            borne 0 0 = 9
            """);
    }

    private static void bearers() {
        says("BEARER of a NAME: itself, if it stands behind nobody", """
            names 01l.
            bearer 0 0 = 0
            bearer 0 1 = 1
            """);
        says("behind itself", """
            names 01la;01lb
            bearer 0 0 = 0
            bearer 0 2 = 0
            bearer 1 0 = 1
            bearer 1 2 = 0
            """);
        says("behind one that there is not", """
            names 01lb
            bearer 0 0 = 0
            names 01lc;01l.
            bearer 0 0 = 0
            names 01lb;01l.
            bearer 0 0 = 1
            names 01lh;01l.;01l.;01l.;01l.;01l.;01l.
            bearer 0 0 = 0
            names 01lh;01l.;01l.;01l.;01l.;01l.;01l.;01l.
            bearer 0 0 = 7
            """);
        says("or that is STRUCK", """
            names 01lb;01l.
            struck 2
            bearer 0 0 = 0
            struck 1
            bearer 0 0 = 1
            """);
        says("else the BEARER of whom it stands behind", """
            names 01lb;01lc;01ld;01le;01lf;01lg;01lh;01l.
            bearer 0 0 = 7
            bearer 6 0 = 7
            bearer 7 1 = 255
            names 01l.;01la;01lb;01lc;01ld;01le;01lf;01lg
            bearer 7 0 = 0
            bearer 0 1 = 255
            """);
        says("NONE, if that goes round for ever (a RING)", """
            names 01lb;01la
            bearer 0 0 = NONE
            bearer 1 0 = NONE
            names 01lb;01lc;01ld;01le;01lf;01lg;01lh;01la
            bearer 0 0 = NONE
            bearer 7 0 = NONE
            names 01lb;01lc;01ld;01le;01lf;01lg;01lh;01lg
            bearer 0 0 = NONE
            struck 64
            bearer 0 0 = 5
            bearer 7 0 = 7
            struck 0
            bearer 7 0 = NONE
            """);
    }

    private static void dues() {
        says("DUE of a LINE (of a SHIP, a NAME that there are, not void)", """
            ships 500
            names 10l.
            lines 0a05;1a06;0b07
            line 0 3 = 5
            line 1 3 = 0
            line 2 3 = 0
            ships 500;500
            line 1 3 = 6
            names 10l.;10l.
            line 2 3 = 7
            struck 2
            line 2 3 = 0
            """);
        says("but if all such LINES of that SHIP are together more than its WORTH", """
            ships 100;100
            names 10l.;10l.
            lines 0a04;0b06;1a99
            line 0 3 = 4                   # just its WORTH
            line 1 3 = 6
            lines 0a04;0b07;1a99
            line 0 3 = 3                   # one more: 40 by 11, 70 by 11
            line 1 3 = 6
            line 2 3 = 10
            lines 0a04;0b07;0c99
            line 0 3 = 3                   # c is not there
            names 10l.;10l.;10l.
            line 0 3 = 0                   # 40 by 110
            line 1 3 = 0
            line 2 3 = 9
            struck 6
            line 0 3 = 4                   # void LINES do not count
            """);
        says("its amount times the WORTH by all these, cut", """
            ships 990
            names 10l.
            lines 0a99;0a99
            line 0 3 = 49
            line 1 3 = 49
            ships 010
            line 0 3 = 0
            lines 0a01
            line 0 3 = 1
            lines 0a99;0a99;0a99;0a99;0a99;0a99;0a99;0a99;0a99;0a99;0a99;0a99
            ships 990
            line 0 3 = 8                   # 99 by 12
            line 11 3 = 8
            unborne 0 = 0
            borne 0 0 = 96
            """);
    }

    private static void yearsAndLosses() {
        says("YEARS are 0 to 29", """
            ships 100
            names 10l.
            lines 0a05
            loss -1 0 = BAD
            loss 30 0 = BAD
            loss 29 0 = 1
            left 28 0 = 10
            left 29 0 = 5
            left 30 0 = BAD
            left -1 0 = BAD
            behind 29 1 = 1
            behind 30 1 = BAD
            behind -1 1 = BAD
            paid 29 0 = 5
            paid 30 0 = BAD
            paid -1 0 = BAD
            loss 0 0 = 2
            left 0 0 = 5
            """);
        says("LOSSES, 12 at most (0 on): in a YEAR a SHIP (0 to 5) is lost", """
            loss 0 -1 = BAD
            loss 0 6 = BAD
            10 x loss 0 0
            loss 0 5 = 11
            loss 29 5 = 12
            loss 0 0 = FULL
            count 6 = 12
            back = 11
            loss 0 0 = 12
            """);
        says("of one the first that is told for the least YEAR; others are nothing", """
            ships 100;100
            names 10l.
            lines 0a06;1a07
            loss 9 0
            loss 9 1
            loss 9 0
            paid 9 0 = 6                   # the first told
            paid 9 1 = 4
            loss 8 1
            paid 8 1 = 7                   # the least YEAR
            paid 9 0 = 3
            paid 9 1 = 7
            back
            back
            paid 9 0 = 6
            """);
        says("In a YEAR its LOSSES, as told: LINE by LINE", """
            ships 100;100
            names 10l.;04l.
            lines 1b03;0a06;1a05;0b02
            loss 3 1
            loss 3 0
            paid 3 1 = 8
            paid 3 0 = 6
            first 1 = 0
            back
            back
            loss 3 0
            loss 3 1
            paid 3 0 = 8
            paid 3 1 = 6
            first 1 = 1                    # line 0 comes ahead of line 2
            """);
    }

    private static void breaking() {
        says("pays DUE, or all that it has left, if that is less: then it BREAKS", """
            ships 500
            names 10l.
            lines 0a10
            loss 0 0
            left 0 0 = 0
            behind 0 0 = 0                 # not less
            first 0 = NONE
            lines 0a11
            left 0 0 = 0
            paid 0 0 = 10
            behind 0 0 = 1
            first 0 = 0
            names 00l.
            paid 0 0 = 0                   # nothing left is less
            behind 0 0 = 1
            ships 010
            lines 0a99;0a99
            behind 0 0 = 0                 # nothing DUE
            lines 0a01
            behind 0 0 = 1
            """);
        says("if it is living", """
            ships 500
            names 10d.
            lines 0a11
            loss 0 0
            paid 0 0 = 10
            left 0 0 = 0
            behind 0 0 = 0
            first 1 = NONE
            safe = 1
            names 10l.
            behind 0 0 = 1
            safe = 0
            """);
    }

    private static void fractions() {
        says("FRACTIONS are told in lowest terms, above and below (0 by 1)", """
            ships 100;108
            names 20l.;20l.;20l.;20l.;20l.
            lines 0a05;1b01;1c02;1d03
            fair 0 0 = 0                   # no RISK
            fair 0 1 = 1
            fair 1 0 = 1                   # 8 by 16
            fair 1 1 = 2
            fair 2 0 = 1                   # 16 by 16
            fair 2 1 = 1
            fair 3 0 = 3                   # 24 by 16
            fair 3 1 = 2
            fair 4 0 = 0                   # no LINE
            fair 4 1 = 1
            storm 1 20 0 = 1
            storm 1 20 1 = 2
            storm 1 21 0 = 0
            storm 1 21 1 = 1
            storm 1 19 0 = 1
            storm 1 19 1 = 1
            ships 999;999;999;999;999;999
            lines 0a99;1a99;2a99;3a99;4a99;5a99
            fair 0 0 = 2673                # 5346 by 16
            fair 0 1 = 8
            storm 0 1 0 = 117649           # 7 by 16 six times
            storm 0 1 1 = 16777216
            """);
    }

    private static void lots() {
        // SEED 2 becomes -2087924461, 1495354192, -1476419263, -1301144050; its upper 16 bits are
        // 33676, 22817, 43007, 45682, the LOTS 12, 1, 15, 2.
        says("SEED becomes 1103515245 SEED and 12345, as ints that wrap", """
            ships 019
            names 10l.
            years 2 1 0 1 = 0
            years 2 2 0 1 = 1
            ships 011
            years 2 3 0 1 = 0              # 12, 1, 15
            ships 012
            years 2 2 0 1 = 1
            ships 010;012
            years 2 1 0 1 = 1              # 12 and 1
            ships 010;010;019;012
            years 2 1 0 1 = 0              # 12, 1, 15, 2
            ships 010;010;019;013
            years 2 1 0 1 = 1
            """);
        // From 2147483647: 1044046284, the LOT 9; then -1858503659, 9. From the least one:
        // -2147471303, its upper bits 32768, the LOT 0; then 1407981182, 12. From -1: -1103502900, 9.
        // From 65536: 1315778617, the LOT 13, then 1850021502, 5.
        says("its upper 16 bits as a number from 0 on, modulo m", """
            ships 019
            names 10l.
            years most 2 0 1 = 0
            years -1 2 0 1 = 0
            years least 1 0 1 = 1
            years 65536 1 0 1 = 0
            years 65536 2 0 1 = 1
            ships 010
            years least 30 0 1 = 0
            years -1 30 0 1 = 0
            years most 30 0 1 = 0
            ships 011
            years least 1 0 1 = 1
            ships 015
            years 65536 2 0 1 = 0
            ships 016
            years 65536 2 0 1 = 1
            """);
    }

    private static void sheetsAndFindings() {
        says("SHEETS 0 .. 3 are LOST (at first)", """
            lose 0 = NULL
            lose 1 = NULL
            lose 2 = NULL
            lose 3 = NULL
            lose 4 = BAD
            lose -1 = BAD
            sheet 4 0 1 = BAD
            sheet -1 0 1 = BAD
            sheet 3 0 1 = 1
            sheet 0 0 1 = 1
            lose 3 = 1
            lose 0 = 1
            """);
        says("or a row of a FORM: 0 bytes, 1 shorts, 2 ints", """
            sheet 0 -1 1 = BAD
            sheet 0 3 1 = BAD
            sheet 0 0 1 = 1
            lay 0 0 0 -128
            get 0 0 0 = -128
            lay 0 0 0 127
            get 0 0 0 = 127
            lay 0 0 0 128
            get 0 0 0 = -128
            lay 0 0 0 -129
            get 0 0 0 = 127
            sheet 0 1 1 = 1
            lay 0 1 0 -32768
            get 0 1 0 = -32768
            lay 0 1 0 32767
            get 0 1 0 = 32767
            lay 0 1 0 32768
            get 0 1 0 = -32768
            lay 0 1 0 -32769
            get 0 1 0 = 32767
            sheet 0 2 1 = 1
            lay 0 2 0 least
            get 0 2 0 = least
            lay 0 2 0 most
            get 0 2 0 = most
            """);
        says("of 0 to 60 items (0 at first)", """
            sheet 0 2 60 = 60
            get 0 2 0 = 0
            get 0 2 59 = 0
            lay 0 2 59 7 = 1
            get 0 2 59 = 7
            lay 0 2 60 7 = INDEX
            sheet 0 2 61 = BAD
            get 0 2 59 = 7
            sheet 0 2 60 = 60
            get 0 2 59 = 0
            sheet 0 2 0 = 0
            lay 0 2 0 7 = INDEX
            lose 0 = 0
            sheet 0 2 60
            get 0 2 59 = 0
            """);
        says("FINDINGS (answers -10 less the number; they change nothing but count() 8)", """
            count 8 = 0
            lose 0 = -11
            count 8 = 1
            sheet 0 0 1
            lay 0 0 1 0 = -12
            count 8 = 2
            lay 0 1 0 0 = -13
            count 8 = 3
            sheet 1 1 1
            copy 0 0 1 0 1 = -14
            count 8 = 4
            sheet 0 0 -1 = -15
            count 8 = 5
            lose 0 = 1
            count 8 = 5
            """);
    }

    private static void whoBears() {
        says("Of a LINE: DUE (0: void, nothing there)", """
            ships 500
            names 10l.
            lines 0a05;0h05;5a05
            line 1 3 = 0
            line 2 3 = 0
            struck 1
            line 0 3 = 0
            """);
        says("for whom it is the BEARER, as bits (itself, too)", """
            names 01l.;01la;01lb;01ld;01ld;01lg;01lf
            bearer 0 1 = 7
            bearer 1 1 = 0
            bearer 3 1 = 24
            bearer 5 1 = 0                 # in a RING: for nobody
            """);
        says("whether it is in a RING, or stands behind one (its BEARER is NONE)", """
            names 01lb;01la;01lb;01ld;01lc
            bearer 0 2 = 1
            bearer 1 2 = 1
            bearer 2 2 = 1
            bearer 3 2 = 0
            bearer 4 2 = 1
            bearer 4 0 = NONE
            """);
        says("BORNE by a NAME of a SHIP; UNBORNE of a SHIP: DUE of those whose BEARER is NONE", """
            ships 990;100
            names 01lb;01la;01ld;01l.
            lines 0a01;0b02;0c04;0d08;1c09;1a11;0h20
            borne 0 0 = 0
            borne 0 2 = 0
            borne 0 3 = 12
            borne 1 3 = 4                  # 90 by 20
            unborne 0 = 3
            unborne 1 = 5                  # 110 by 20
            struck 2
            unborne 0 = 0
            borne 0 0 = 1
            borne 0 1 = 0
            struck 8
            borne 0 2 = 4
            borne 0 3 = 0
            """);
    }

    private static void behindYears() {
        says("Behind a YEAR: what a NAME has left; who is broken (BREAKS in it or ahead)", """
            ships 500;500
            names 10l.;20l.
            lines 0a11;1b21
            loss 5 0
            loss 6 1
            behind 4 0 = 0
            behind 5 0 = 1
            behind 6 0 = 3
            behind 29 0 = 3
            left 4 0 = 10
            left 5 0 = 0
            left 5 1 = 20
            left 6 1 = 0
            """);
        says("PAID for a SHIP (all that was paid for it by then); SHIPS that are lost, as bits", """
            ships 500;500
            names 50l.
            lines 0a11;1a21
            loss 5 1
            loss 6 0
            loss 6 5                       # a SHIP that there is not
            paid 4 1 = 0
            paid 5 1 = 21
            paid 29 1 = 21
            paid 5 0 = 0
            paid 6 0 = 11
            behind 4 1 = 0
            behind 5 1 = 2
            behind 6 1 = 3
            behind 29 1 = 3
            """);
        says("FIRST: the YEAR in which one BREAKS first, who (the first in it); NONE", """
            first 0 = NONE
            first 1 = NONE
            ships 500;500
            names 10l.;20l.
            lines 0b21;0a11;1a11
            first 0 = NONE
            loss 29 0
            first 0 = 29
            first 1 = 1
            loss 0 1
            first 0 = 0
            first 1 = 0
            back
            names 10l.;20d.
            first 1 = 0
            names 10d.;20d.
            first 0 = NONE
            first 1 = NONE
            """);
    }

    private static void plans() {
        says("SAFE: SHIPS by the loss of each of which, alone, nobody living BREAKS", """
            safe = 0
            ships 200;200;200;200;200;200
            safe = 63
            names 10l.;10d.
            lines 0a10;1a11;2b11;3a06;4a06;5b11
            safe = 61
            loss 0 0                       # as all have what they have at first
            safe = 61
            names 00l.;10d.
            safe = 36
            """);
        says("TAKE of a SHIP: the fewest NAMES, not STRUCK, that have its WORTH together", """
            ships 200;210;400;410
            names 20l.;10d.;09l.;01l.
            take 0 = 1                     # just its WORTH
            take 1 = 9                     # 20 and 1, not 20 and 9, not 20 and 10
            take 2 = 15                    # all have 40
            take 3 = NONE
            struck 1
            take 0 = 14
            take 1 = NONE
            """);
        says("of like ones those that have least together, of like ones the least bits", """
            ships 100;200
            names 12l.;11l.;11l.;10la;10l.
            take 0 = 8
            take 1 = 24
            names 12l.;11l.;11l.;09la;09l.
            take 0 = 2
            take 1 = 10                    # 11 and 9, the first of each
            """);
        says("TAKE: NONE", """
            ships 010
            take 0 = NONE                  # no NAMES
            names 00l.
            take 0 = NONE
            names 01l.
            take 0 = 1
            struck 1
            take 0 = NONE
            take 1 = BAD
            """);
        says("STRIKE: by how much BORNE is more, were another one STRUCK, too (perhaps less)", """
            ships 990;100
            names 10l.;10la;10lb
            lines 0a07;0b08;0c09;1b10;1c10
            strike 0 1 = -27               # 34 becomes 7
            strike 2 1 = 19                # c bears 9 and 10 for itself
            strike 1 1 = 0
            strike 0 2 = -9                # of ship 1 10 of 10 is DUE of b
            strike 1 0 = 27                # 8, 9, 5, 5
            struck 2
            strike 2 1 = 0                 # STRUCK already
            strike 0 2 = 0
            strike 0 0 = -7
            """);
        says("by how much ... is more: any number", """
            ships 990;990;990;990;990;990
            names 10l.;10la
            lines 0b99;1b99;2b99;3b99;4b99;5b99
            strike 0 1 = -594
            strike 1 0 = 594
            """);
    }

    private static void sightings() {
        says("SEEN, 8 at most: for a SHIP (0 to 5) so much was paid (0 to 999)", """
            seen -1 0 = BAD
            seen 6 0 = BAD
            seen 0 -1 = BAD
            seen 0 1000 = BAD
            count 7 = 0
            seen 0 0 = 1
            seen 5 999 = 2
            5 x seen 0 0
            seen 0 0 = 8
            seen 0 0 = FULL
            count 7 = 8
            """);
        says("SEEN: lost alone, as all have what they have at first", """
            ships 500;500
            names 10l.
            lines 0a10;1a08
            loss 0 0
            seen 0 10
            seen 1 8
            sound 0 = 1
            sound 1 = 1
            """);
        says("sets of NAMES that pay (others, UNSOUND, never pay)", """
            ships 500
            names 10l.;20l.;30lb
            lines 0a05;0b06;0c20
            seen 0 20                      # b alone pays 20 of 26, for c, too
            sound 0 = 2
            sound 1 = 2
            forget
            seen 0 5                       # a alone; c may be sound, but b is asked
            sound 0 = 2
            sound 1 = 1
            forget
            seen 0 25
            sound 0 = 2
            sound 1 = 3
            forget
            seen 0 0
            sound 0 = 2
            sound 1 = 0
            """);
        says("SOUND: how many; the least, as bits; NONE", """
            sound 0 = 1
            sound 1 = 0
            names 01l.;01l.;01l.;01l.;01l.;01l.;01l.;01l.
            sound 0 = 256
            sound 1 = 0
            ships 010
            lines 0h01
            seen 0 1
            sound 0 = 128
            sound 1 = 128
            seen 0 0
            sound 0 = 0
            sound 1 = NONE
            """);
        says("of a SHIP that there is not nothing is paid", """
            seen 5 0
            sound 0 = 1
            seen 5 1
            sound 0 = 0
            sound 1 = NONE
            """);
        pressing();
    }

    private static void pressing() {
        says("PRESS: the SHIP by whose loss the greatest number of sets that pay alike is least", """
            ships 500;500;500
            names 10l.;10l.
            lines 0a05;1a05;1b05;2a05;2b06
            press = 2                      # 2 alike, 2 alike (5 and 5), 1
            seen 0 5
            press = 1                      # 1 and 3 alone are left: 5 and 10
            """);
        says("PRESS: of like ones the least", """
            ships 500;500;500
            names 10l.;10l.
            lines 1a05;2b05
            press = 1
            names 10l.
            lines 0a05;1a05;2a05
            press = 0
            seen 0 6
            press = 0                      # of no sets none pays alike
            """);
        says("PRESS: NONE: there are no SHIPS", """
            press = NONE
            names 10l.
            press = NONE
            ships 010
            press = 0
            wipe 0
            press = NONE
            """);
        says("PRESS: those sets that pay alike, up to all that the SHIP is WORTH", """
            ships 990;990
            names 99l.;99l.
            lines 0a99;1b99
            seen 0 99
            press = 1                      # for ship 0 99 twice, for ship 1 0 and 99
            """);
    }

    private static void storms() {
        says("FAIR for a NAME: RISK in sixteenths times BORNE, of all SHIPS", """
            ships 991;992;993;994;995;999
            names 10la;10la
            lines 0a01;1a01;2a01;3b01;4b01;5b01
            fair 0 0 = 3                   # 24 by 16
            fair 0 1 = 2
            fair 1 0 = 0
            fair 1 1 = 1
            """);
        says("STORM: the chance that a NAME has so much (0 to 99) left, or more, then", """
            ships 101;102
            names 99l.
            lines 0a04;1a05
            storm 0 -1 0 = BADlong
            storm 0 100 0 = BADlong
            storm 0 0 0 = 1
            storm 0 0 1 = 1
            storm 0 99 0 = 105             # neither: 15 times 14 by 256
            storm 0 99 1 = 128
            storm 0 95 0 = 7               # not ship 1: 14 by 16
            storm 0 95 1 = 8
            storm 0 96 0 = 105
            storm 0 94 0 = 127             # not both: 254 by 256
            storm 0 94 1 = 128
            storm 0 91 0 = 127
            storm 0 90 0 = 1
            """);
        says("STORM: all in one YEAR, in their order", """
            ships 108;108
            names 10lb;10l.
            lines 1a08;0b08
            storm 1 2 0 = 3                # not both
            storm 1 2 1 = 4
            storm 1 3 0 = 1                # none
            storm 1 3 1 = 4
            storm 1 0 0 = 1
            """);
        says("YEARS by a SEED: in each of n (1 to 30) YEARS from 0 on", """
            ships 100
            names 10l.
            lines 0a03
            years 0 0 0 0 = BAD
            years 0 31 0 0 = BAD
            years 0 -1 0 0 = BAD
            years 0 1 0 0 = 10
            years 0 30 0 0 = 10
            """);
        // From SEED 0 the LOTS are 0, 12, 4, 5, 10; with one SHIP lost at once the next has the next.
        says("for each SHIP that is not lost yet, in their order, a LOT of 16: less than RISK", """
            ships 101;305
            names 50l.
            lines 0a01;1a20
            years 0 1 0 1 = 1              # 0, then 12
            years 0 2 0 1 = 2              # 4 for ship 1: less than 5
            ships 101;304
            years 0 2 0 1 = 1              # 4 is not less than 4
            ships 305;101
            years 0 1 0 1 = 1
            years 0 1 0 0 = 49             # 0 for ship 0, 12 for ship 1
            """);
        says("it is lost (LOSSES told are nothing)", """
            ships 101;305
            names 50l.
            lines 0a01;1a20
            loss 0 1
            years 0 1 0 1 = 1
            years 0 1 0 0 = 49
            years 0 2 0 0 = 29
            """);
    }
}
