/**
 * What the promises share, as the document's "Terms" have it: conventions, settings, yarn, ropes, cutting, orders,
 * a day, accounts. Each test says its sentence in its title. (What texts share stands in TextsTest.)
 */
public final class TermsTest {
    public static void main(String[] args) {
        noneOnlyIfNoErrorApplies();
        divisionsAreRoundedDown();
        allIsNumberedFromZero();
        settingsOfLengths();
        settingsInPercent();
        settingsOfFeet();
        settingsOfTimeAndMoney();
        fibres();
        theStore();
        numbersOfPieces();
        numbersOfPiecesWithAllOfThem();
        strandsRoundedUp();
        yarnsRoundedUp();
        strandsNoLongerThanWalk();
        theYarnThatItTakes();
        hoursRoundedUp();
        hoursOfADay();
        quality();
        qualityAsWhenItIsLaid();
        strength();
        strengthAsItIsNow();
        strengthWithSplices();
        yarnInAPart();
        aRestKeepsQualityAndSplices();
        endsAreShorterThanShortest();
        endsBehindEachCut();
        endsByTheShortestOfThen();
        noEndsWithoutACut();
        numbersOfOrders();
        suitsFibreAndStrength();
        suitsSplices();
        suitsLength();
        fillingTakesTheShortest();
        fillingGoesOn();
        fillingSellsForThePrice();
        aDayOfFines();
        aDayOfHours();
        accounts();
        Due.finish("TermsTest");
    }

    // ---- conventions

    private static void noneOnlyIfNoErrorApplies() {
        Script.run("NONE is returned only if no error applies", """
            longest(-1, 3, 1) = NO_SUCH; longest(3, 3, 1) = NO_SUCH; longest(0, 2, 1) = BAD_VALUE
            longest(0, 3, 41) = BAD_VALUE; longest(0, 3, 1) = NONE
            leastYarns(3, 3, 50000) = NO_SUCH; leastYarns(0, 5, 50000) = BAD_VALUE
            leastYarns(0, 3, 50001) = BAD_VALUE; leastYarns(0, 3, 50000) = NONE
            fewestJoined(0, 5000) = NO_SUCH; spin(0, 1000) = 1000; lay(0, 3, 1, 20) = 0
            fewestJoined(1, 5000) = NO_SUCH; fewestJoined(0, 5001) = BAD_VALUE; fewestJoined(0, 5000) = NONE
            fault() = 0; put("d1") = 2; fault() = NONE
            count(8) = 2; count(7) = 2; account(0, 1) = 910""");
    }

    private static void divisionsAreRoundedDown() {
        Script.run("divisions are rounded down: strength", Walks.plain(), """
            fibre(0, 33, 49) = 10050; lay(0, 3, 1, 50) = 0; lay(0, 3, 1, 50) = 1
            piece(0, 7) = 97                                // 97.02
            join(0, 1) = 0; piece(0, 7) = 82                // 82.45
            fibre(0, 1, 50) = 3349; piece(0, 7) = 1         // 2.94 is 2, and 1.7 is 1
            set(SPLICE, 60) = 15; piece(0, 7) = 0           // 0.8""");
        Script.run("divisions are rounded down: yarn", Walks.withPieces(25), """
            piece(0, 4) = 114                               // 3 * 38, for 37.5
            test(0) = 300; account(0, 4) = 22               // 22.8
            piece(0, 4) = 92
            test(0) = 300; account(0, 4) = 45               // 23
            test(0) = 300; account(0, 4) = 68
            piece(0, 3) = 10; piece(0, 4) = 46""");
    }

    private static void allIsNumberedFromZero() {
        Script.run("everything is numbered from 0, today is 0 at first", """
            count(0) = 0; spin(0, 1000) = 1000; lay(0, 3, 1, 20) = 0; lay(0, 3, 1, 20) = 1
            piece(-1, 3) = NO_SUCH; piece(0, 3) = 20; piece(1, 3) = 20; piece(2, 3) = NO_SUCH
            order(0, 1, 5, 1, 0, 0) = 0; order(0, 1, 6, 1, 0, 0) = 1
            ofOrder(-1, 2) = NO_SUCH; ofOrder(0, 2) = 5; ofOrder(1, 2) = 6; ofOrder(2, 2) = NO_SUCH
            account(-1, 1) = NO_SUCH; account(0, 1) = 820; account(2, 1) = 0; account(3, 1) = NO_SUCH""");
    }

    // ---- settings: what the ends of their ranges do

    private static void settingsOfLengths() {
        Script.run("WALK, 100 to 2000", Walks.plain(), """
            set(WALK, 99) = BAD_VALUE; set(WALK, 100) = 2000
            lay(0, 3, 1, 101) = NOT_POSSIBLE; lay(0, 3, 1, 100) = 0; longest(0, 3, 1) = 100
            set(WALK, 2001) = BAD_VALUE; set(WALK, 2000) = 100
            lay(0, 3, 1, 2000) = 1; set(LAY, 1) = 0; lay(0, 3, 1, 1981) = NOT_POSSIBLE""");
        Script.run("WALK is 1000 at first", """
            spin(0, 9000) = 9000; set(SPEED, 500) = 100; takes(0, 3, 1, 892, 0) = 1000; takes(0, 3, 1, 893, 0) = 1001
            lay(0, 3, 1, 893) = NOT_POSSIBLE; lay(0, 3, 1, 892) = 0""");
    }

    private static void settingsInPercent() {
        Script.run("TWIST, 10 to 60", Walks.plain(), """
            set(TWIST, 9) = BAD_VALUE; set(TWIST, 10) = 50; takes(0, 3, 1, 100, 1) = 110; takes(0, 3, 1, 101, 1) = 112
            set(TWIST, 61) = BAD_VALUE; set(TWIST, 60) = 10; takes(0, 3, 1, 100, 1) = 160; takes(0, 3, 1, 101, 1) = 162""");
        Script.run("LAY, 0 to 40", """
            set(LAY, -1) = BAD_VALUE; set(LAY, 0) = 12; takes(0, 3, 1, 100, 0) = 100; takes(0, 3, 1, 101, 0) = 101
            set(LAY, 41) = BAD_VALUE; set(LAY, 40) = 0; takes(0, 3, 1, 100, 0) = 140; takes(0, 3, 1, 101, 0) = 142""");
        Script.run("SPLICE, 0 to 60", Walks.withPieces(50, 50), """
            join(0, 1) = 0; piece(0, 7) = 255
            set(SPLICE, -1) = BAD_VALUE; set(SPLICE, 0) = 15; piece(0, 7) = 300; set(SPLICE, 1) = 0; piece(0, 7) = 297
            set(SPLICE, 61) = BAD_VALUE; set(SPLICE, 60) = 1; piece(0, 7) = 120""");
    }

    private static void settingsOfFeet() {
        Script.run("OVERLAP of 1", Walks.withPieces(2, 2, 1), """
            set(OVERLAP, 0) = BAD_VALUE; set(OVERLAP, 1) = 6; join(0, 2) = NOT_POSSIBLE; join(0, 1) = 0; piece(0, 3) = 3""");
        Script.run("OVERLAP of 30", Walks.withPieces(31, 31, 30), """
            set(OVERLAP, 31) = BAD_VALUE; set(OVERLAP, 30) = 6; join(0, 2) = NOT_POSSIBLE; join(0, 1) = 0; piece(0, 3) = 32""");
        Script.run("TEST of 1", Walks.withPieces(1, 12), """
            set(TEST, 0) = BAD_VALUE; set(TEST, 1) = 5; test(1) = 300; piece(1, 3) = 11; test(0) = 300; lengths() = "11";""");
        Script.run("TEST of 30", Walks.withPieces(29, 30), """
            set(TEST, 31) = BAD_VALUE; set(TEST, 30) = 5; test(0) = NOT_POSSIBLE; test(1) = 300; lengths() = "29";""");
        Script.run("SHORTEST of 1", Walks.withPieces(6, 5), """
            set(SHORTEST, 0) = BAD_VALUE; set(SHORTEST, 1) = 10; test(0) = 300; lengths() = "1 5"
            test(1) = 300; lengths() = "1"; account(0, 5) = 0""");
        Script.run("SHORTEST of 60", Walks.withPieces(65, 64), """
            set(SHORTEST, 61) = BAD_VALUE; set(SHORTEST, 60) = 10; test(0) = 300; lengths() = "60 64"
            test(1) = 300; lengths() = "60"; account(0, 5) = 266""");
    }

    private static void settingsOfTimeAndMoney() {
        Script.run("HOURS of 1", Walks.plain(), """
            set(HOURS, 0) = BAD_VALUE; set(HOURS, 1) = 24; count(3) = 1
            lay(0, 3, 1, 167) = NOT_POSSIBLE; lay(0, 3, 1, 166) = 0; count(3) = 0""");
        Script.run("HOURS of 24", Walks.plain(), """
            set(HOURS, 25) = BAD_VALUE; set(HOURS, 24) = 24; lay(0, 4, 1, 2000) = 0; count(3) = 8
            lay(0, 3, 1, 1334) = NOT_POSSIBLE; lay(0, 3, 1, 1333) = 1; count(3) = 0""");
        Script.run("SPEED, 10 to 500", Walks.plain(), """
            set(SPEED, 9) = BAD_VALUE; set(SPEED, 10) = 500; takes(0, 3, 1, 80, 3) = 24; takes(0, 3, 1, 81, 3) = 25
            lay(0, 3, 1, 81) = NOT_POSSIBLE; lay(0, 3, 1, 80) = 0; count(3) = 0
            set(SPEED, 501) = BAD_VALUE; set(SPEED, 500) = 10; takes(0, 4, 1, 125, 3) = 1; takes(0, 4, 1, 126, 3) = 2""");
        Script.run("FINE, 0 to 500", """
            order(0, 1, 1, 20, 0, 0) = 0; set(FINE, -1) = BAD_VALUE; set(FINE, 0) = 50; finesIn(200) = 0
            pass(1) = 1; count(6) = 0; set(FINE, 501) = BAD_VALUE; set(FINE, 500) = 0; finesIn(200) = 2000000
            pass(1) = 2; count(6) = 10000; drop(0) = 10000; count(6) = 20000""");
    }

    // ---- yarn

    private static void fibres() {
        Script.run("three fibres, a strength of 1 to 200, a best twist of 10 to 60", """
            count(19) = 60; count(20) = 45; count(21) = 30; count(22) = 32; count(23) = 28; count(24) = 24
            fibre(0, 1, 10) = 6032; fibre(1, 200, 60) = 4528; fibre(2, 30, 24) = 3024; fibre(3, 30, 24) = NO_SUCH
            fibre(0, 0, 10) = BAD_VALUE; fibre(1, 201, 60) = BAD_VALUE; fibre(0, 1, 9) = BAD_VALUE; fibre(1, 200, 61) = BAD_VALUE
            count(19) = 1; count(20) = 200; count(21) = 30; count(22) = 10; count(23) = 60; count(24) = 24
            takes(0, 3, 1, 10, 5) = 1       // 1.8, of a quality of 60
            takes(1, 4, 40, 10, 5) = 12800  // of a quality of 40""");
    }

    private static void theStore() {
        Script.run("yarn in the store, 0 to 9000000", """
            3 * spin(0, 3000000); 3 * spin(2, 3000000); account(0, 1) = 9000000; spin(0, 1) = NOT_POSSIBLE
            spin(1, 1) = 1; spin(2, 1) = NOT_POSSIBLE
            lay(0, 3, 1, 1) = 0; account(0, 1) = 8999991
            spin(0, 10) = NOT_POSSIBLE; spin(0, 9) = 9000000; account(0, 0) = 9000009""");
        Script.run("the store can be empty again", """
            spin(0, 9) = 9; lay(0, 3, 1, 1) = 0; account(0, 1) = 0; lay(0, 3, 1, 1) = NOT_POSSIBLE; longest(0, 3, 1) = NONE""");
    }

    // ---- ropes

    private static void numbersOfPieces() {
        String pieces = """
            set(SHORTEST, 1) = 10; lay(0, 3, 1, 20) = 0; lay(1, 4, 2, 25) = 1; lay(2, 3, 3, 28) = 2; lay(0, 3, 1, 30) = 3
            """;
        Script.run("when a piece is gone, the later numbers decrease: the first", Walks.plain(), pieces + """
            set(TEST, 20) = 5; test(0) = 300; lengths() = "25 28 30"
            piece(0, 0) = 1; piece(0, 1) = 4; piece(0, 2) = 2; piece(0, 4) = 304; piece(0, 5) = 56; piece(0, 7) = 201
            piece(1, 0) = 2; piece(1, 1) = 3; piece(1, 2) = 3; piece(1, 4) = 378; piece(1, 5) = 48; piece(1, 7) = 129
            piece(2, 0) = 0; piece(3, 0) = NO_SUCH; count(1) = 3; lay(0, 3, 1, 31) = 3""");
        Script.run("when a piece is gone, the later numbers decrease: one between", Walks.plain(), pieces + """
            set(TEST, 25) = 5; test(1) = 201; lengths() = "20 28 30"
            piece(0, 0) = 0; piece(1, 0) = 2; piece(2, 0) = 0; piece(3, 0) = NO_SUCH; lay(1, 3, 1, 31) = 3; piece(3, 0) = 1""");
        Script.run("when a piece is gone, the earlier numbers stay: the last", Walks.plain(), pieces + """
            set(TEST, 30) = 5; test(3) = 300; lengths() = "20 25 28"; piece(3, 0) = NO_SUCH; lay(2, 3, 1, 31) = 3""");
        Script.run("when a piece is gone, the later numbers decrease: by fill", Walks.plain(), pieces + """
            order(1, 1, 25, 1, 0, 0) = 0; fill(0) = 1; lengths() = "20 28 30"
            order(0, 1, 15, 3, 0, 0) = 0; fill(0) = 3; lengths() = "5 28"
            piece(0, 0) = 0; piece(1, 0) = 2""");
        Script.run("when a piece is gone, the later numbers decrease: by join", Walks.plain(), pieces + """
            lay(1, 4, 2, 40) = 4; join(0, 3) = 0; lengths() = "44 25 28 40"; join(3, 1) = 1; lengths() = "44 59 28";""");
    }

    private static void numbersOfPiecesWithAllOfThem() {
        Script.run("up to 24 pieces", Walks.plain(), """
            23 * lay(0, 3, 1, 20); lay(0, 3, 1, 21) = 23; lay(0, 3, 1, 20) = TOO_MANY; piece(23, 3) = 21; piece(24, 3) = NO_SUCH
            join(22, 23) = 22; piece(22, 3) = 35; piece(23, 3) = NO_SUCH; pass(1)
            lay(0, 3, 1, 22) = 23; piece(23, 3) = 22; join(0, 1) = 0; piece(0, 3) = 34; piece(1, 3) = 20; piece(22, 3) = 22
            lay(0, 3, 1, 23) = 23; piece(23, 3) = 23; test(23) = 300; count(1) = 24; lay(0, 3, 1, 20) = TOO_MANY""");
    }

    private static void strandsRoundedUp() {
        Script.run("strands, rounded up", """
            takes(0, 3, 1, 25, 0) = 28; takes(0, 3, 1, 24, 0) = 27; takes(0, 3, 1, 26, 0) = 30    // 28, 26.88, 29.12
            set(LAY, 1) = 12; takes(0, 3, 1, 1, 0) = 2; takes(0, 3, 1, 99, 0) = 100; takes(0, 3, 1, 100, 0) = 101
            takes(0, 3, 1, 101, 0) = 103; takes(0, 3, 1, 2000, 0) = 2020
            set(LAY, 0) = 1; takes(0, 3, 1, 1, 0) = 1; takes(0, 3, 1, 2000, 0) = 2000""");
    }

    private static void yarnsRoundedUp() {
        Script.run("yarns of the strand, rounded up again", """
            takes(0, 3, 1, 24, 1) = 36      // 27 * 1.3, and not 26.88 * 1.3
            takes(0, 3, 1, 25, 1) = 37      // 36.4
            set(LAY, 0) = 12; takes(0, 3, 1, 10, 1) = 13; takes(0, 3, 1, 11, 1) = 15; takes(0, 3, 1, 1, 1) = 2
            set(TWIST, 60) = 30; set(LAY, 40) = 0; takes(0, 3, 1, 2000, 1) = 4480; takes(0, 4, 40, 2000, 2) = 716800""");
    }

    private static void strandsNoLongerThanWalk() {
        Script.run("strands no longer than WALK", """
            set(SPEED, 500) = 100; spin(0, 90000) = 90000; set(WALK, 111) = 1000
            lay(0, 3, 1, 100) = NOT_POSSIBLE; longest(0, 3, 1) = 99; lay(0, 3, 1, 99) = 0   // 110.88
            set(WALK, 112) = 111; lay(0, 3, 1, 100) = 1; lay(0, 3, 1, 101) = NOT_POSSIBLE; longest(0, 3, 1) = 100""");
    }

    private static void theYarnThatItTakes() {
        Script.run("the yarn is strands * yarns * length of the yarns, and is in the rope", """
            spin(1, 20439) = 20439; set(SPEED, 500) = 100
            takes(1, 3, 40, 100, 2) = 17520; takes(1, 4, 40, 100, 2) = 23360; takes(1, 4, 1, 1, 2) = 12
            lay(1, 4, 40, 100) = NOT_POSSIBLE; lay(1, 4, 35, 100) = NOT_POSSIBLE    // 20440
            spin(1, 1) = 20440; lay(1, 4, 35, 100) = 0; piece(0, 4) = 20440; account(1, 1) = 0; account(1, 2) = 20440""");
    }

    private static void hoursRoundedUp() {
        Script.run("hours of all strands, rounded up", Walks.plain(), """
            set(SPEED, 100) = 500; takes(0, 3, 1, 100, 3) = 3; takes(0, 3, 1, 101, 3) = 4; takes(0, 3, 1, 99, 3) = 3
            takes(0, 3, 1, 50, 3) = 2; takes(0, 4, 1, 50, 3) = 2; takes(0, 4, 1, 51, 3) = 3; takes(0, 3, 1, 1, 3) = 1
            takes(0, 3, 40, 100, 3) = 3
            set(LAY, 1) = 0; takes(0, 3, 1, 100, 3) = 4; takes(0, 3, 1, 99, 3) = 3
            set(SPEED, 10) = 100; set(LAY, 40) = 1; takes(0, 4, 1, 2000, 3) = 1120""");
    }

    private static void hoursOfADay() {
        Script.run("each day has HOURS hours", Walks.plain(), """
            set(SPEED, 100) = 500; set(HOURS, 12) = 24; lay(0, 3, 1, 200) = 0; count(3) = 6
            lay(0, 3, 1, 201) = NOT_POSSIBLE; count(3) = 6; lay(0, 3, 1, 167) = 1; count(3) = 0     // 5.01 is 6
            lay(0, 3, 1, 1) = NOT_POSSIBLE; pass(1) = 1; count(3) = 12; lay(0, 3, 1, 400) = 2; count(3) = 0
            pass(60) = 61; count(3) = 12; lay(0, 3, 1, 401) = NOT_POSSIBLE""");
    }

    private static void quality() {
        Script.run("quality, 100 less 2 times the difference, but 40 at least", """
            set(TWIST, 40) = 30
            fibre(0, 60, 40); takes(0, 3, 1, 1, 4) = 100
            fibre(0, 60, 39); takes(0, 3, 1, 1, 4) = 98
            fibre(0, 60, 41); takes(0, 3, 1, 1, 4) = 98
            fibre(0, 60, 11); takes(0, 3, 1, 1, 4) = 42
            fibre(0, 60, 10); takes(0, 3, 1, 1, 4) = 40
            set(TWIST, 41) = 40; takes(0, 3, 1, 1, 4) = 40
            set(TWIST, 60) = 41; takes(0, 3, 1, 1, 4) = 40
            set(TWIST, 10) = 60; fibre(0, 60, 60); takes(0, 3, 1, 1, 4) = 40
            fibre(0, 60, 40); takes(0, 3, 1, 1, 4) = 40
            fibre(0, 60, 39); takes(0, 3, 1, 1, 4) = 42""");
    }

    private static void qualityAsWhenItIsLaid() {
        Script.run("quality as both are when it is laid", Walks.plain(), """
            lay(0, 3, 1, 20) = 0; piece(0, 5) = 100; set(TWIST, 40) = 50; piece(0, 5) = 100; lay(0, 3, 1, 20) = 1; piece(1, 5) = 80
            fibre(0, 100, 35) = 10050; piece(0, 5) = 100; piece(1, 5) = 80; lay(0, 3, 1, 20) = 2; piece(2, 5) = 90
            piece(0, 7) = 300; piece(1, 7) = 240; piece(2, 7) = 270""");
    }

    private static void strength() {
        Script.run("strength is strands * yarns * strength of a yarn * quality / 100", Walks.plain(), """
            fibre(0, 200, 50); lay(0, 4, 40, 10) = 0; piece(0, 7) = 32000
            fibre(0, 1, 50); lay(0, 3, 1, 10) = 1; piece(1, 7) = 3
            fibre(0, 1, 10); lay(0, 3, 1, 10) = 2; piece(2, 5) = 40; piece(2, 7) = 1      // 1.2
            fibre(0, 33, 10); piece(2, 7) = 39                                            // 39.6
            fibre(0, 100, 10); piece(0, 7) = 16000; piece(1, 7) = 300; piece(2, 7) = 120""");
    }

    private static void strengthAsItIsNow() {
        Script.run("the strength of a yarn as it is now", Walks.withPieces(50), """
            order(0, 150, 10, 1, 0, 0) = 0; ofOrder(0, 7) = 1; fibre(0, 50, 10) = 10050; piece(0, 7) = 150; ofOrder(0, 7) = 1
            fibre(0, 49, 50) = 5010; piece(0, 7) = 147; ofOrder(0, 7) = 0; fill(0) = NOT_POSSIBLE; test(0) = 147
            fibre(1, 200, 10); piece(0, 7) = 147; fibre(0, 50, 50); fill(0) = 1""");
    }

    private static void strengthWithSplices() {
        Script.run("less SPLICE for each hundred, however many splices there are", Walks.withPieces(50, 50, 50, 50, 50), """
            piece(0, 7) = 300; join(0, 1) = 0; piece(0, 6) = 1; piece(0, 7) = 255; join(0, 1) = 0; piece(0, 6) = 2; piece(0, 7) = 255
            join(1, 2) = 1; join(0, 1) = 0; piece(0, 6) = 4; piece(0, 7) = 255; set(SPLICE, 33) = 15; piece(0, 7) = 201
            fibre(0, 33, 50); piece(0, 7) = 66      // 99 * 67 / 100 = 66.33""");
    }

    // ---- cutting

    private static void yarnInAPart() {
        Script.run("the yarn in the part, and the rest stays", Walks.withPieces(21), """
            piece(0, 4) = 96; order(0, 1, 10, 1, 0, 0) = 0; fill(0) = 1
            account(0, 3) = 45; piece(0, 3) = 11; piece(0, 4) = 51; account(0, 2) = 51      // 45.71
            order(0, 1, 1, 1, 0, 0) = 0; fill(0) = 1; account(0, 3) = 49; piece(0, 4) = 47  // 4.63
            order(0, 1, 10, 1, 0, 0) = 0; fill(0) = 1; account(0, 3) = 96; account(0, 2) = 0; account(0, 5) = 0; count(1) = 0""");
        Script.run("the yarn in a part of a joined piece", Walks.withPieces(20, 21), """
            join(0, 1) = 0; piece(0, 3) = 35; piece(0, 4) = 186; order(0, 1, 7, 1, 1, 0) = 0; fill(0) = 1
            account(0, 3) = 37; piece(0, 4) = 149; piece(0, 3) = 28      // 37.2""");
    }

    private static void aRestKeepsQualityAndSplices() {
        Script.run("the rest has the quality and all splices of the piece", Walks.withPieces(50, 50, 50), """
            join(0, 1) = 0; join(0, 1) = 0; set(TWIST, 40) = 50; fibre(0, 100, 60) = 10050
            order(0, 255, 90, 1, 1, 0) = 0; fill(0) = 1; piece(0, 3) = 48; piece(0, 5) = 100; piece(0, 6) = 2; piece(0, 7) = 255
            test(0) = 255; piece(0, 5) = 100; piece(0, 6) = 2; order(0, 1, 1, 1, 0, 0) = 0; fill(0) = NOT_POSSIBLE""");
    }

    private static void endsAreShorterThanShortest() {
        Script.run("a rest of SHORTEST is no end", Walks.withPieces(40), """
            order(0, 1, 30, 1, 0, 0) = 0; fill(0) = 1; lengths() = "10"; account(0, 5) = 0; account(0, 2) = 45""");
        Script.run("a rest a foot shorter is an end", Walks.withPieces(39), """
            order(0, 1, 30, 1, 0, 0) = 0; fill(0) = 1; count(1) = 0; account(0, 5) = 41; account(0, 2) = 0; account(0, 3) = 136""");
        Script.run("a rest of a foot is an end", Walks.withPieces(31), """
            order(0, 1, 30, 1, 0, 0) = 0; fill(0) = 1; count(1) = 0; account(0, 5) = 5; account(0, 3) = 136""");
        Script.run("a piece without length is gone, and is no end", Walks.withPieces(30), """
            order(0, 1, 30, 1, 0, 0) = 0; fill(0) = 1; count(1) = 0; account(0, 5) = 0; account(0, 3) = 135""");
        Script.run("a part is no end, however short", Walks.withPieces(30), """
            set(SHORTEST, 60) = 10; set(SHORTEST, 29) = 60; order(0, 1, 1, 1, 0, 0) = 0; fill(0) = 1; lengths() = "29"
            account(0, 3) = 4; account(0, 5) = 0""");
    }

    private static void endsBehindEachCut() {
        Script.run("behind each cut: an end is not cut once more", Walks.withPieces(18), """
            order(0, 1, 4, 4, 0, 0) = 0; fill(0) = 3; count(1) = 0; ofOrder(0, 3) = 1       // 14, 10, and 6 is an end
            account(0, 3) = 54; account(0, 5) = 27""");
        Script.run("behind each cut: others, that are not cut, stay", Walks.withPieces(5, 40, 9), """
            order(0, 1, 30, 1, 0, 0) = 0; fill(0) = 1; lengths() = "5 10 9"; test(1) = 300; lengths() = "5 9"
            account(0, 5) = 23""");
        Script.run("behind each cut: the next one is cut from another piece", Walks.withPieces(19, 30), """
            order(0, 1, 10, 3, 0, 0) = 0; fill(0) = 3; lengths() = "10"; account(0, 5) = 42; account(0, 3) = 135""");
    }

    private static void endsByTheShortestOfThen() {
        Script.run("shorter than SHORTEST then", Walks.withPieces(50, 50, 50), """
            test(0) = 300; lengths() = "45 50 50"; set(SHORTEST, 46) = 10; lengths() = "45 50 50"
            test(1) = 300; lengths() = "45 50"; account(0, 5) = 203; set(SHORTEST, 45) = 46; test(1) = 300; lengths() = "45 45"
            set(SHORTEST, 1) = 45; set(TEST, 30) = 5; test(0) = 300; lengths() = "15 45"; account(0, 5) = 203""");
    }

    private static void noEndsWithoutACut() {
        Script.run("a rope that is laid or joined is a piece, however short", Walks.plain(), """
            set(SHORTEST, 60) = 10; lay(0, 3, 1, 1) = 0; lay(0, 3, 1, 7) = 1; lay(0, 3, 1, 7) = 2; lengths() = "1 7 7"
            join(1, 2) = 1; lengths() = "1 8"; account(0, 5) = 0; pass(1); lengths() = "1 8"
            order(0, 1, 1, 1, 0, 0) = 0; fill(0) = 1; lengths() = "8"; account(0, 5) = 0
            order(0, 1, 1, 1, 1, 0) = 0; fill(0) = 1; count(1) = 0; account(0, 3) = 14; account(0, 5) = 58""");
    }

    // ---- orders

    private static void numbersOfOrders() {
        String orders = """
            order(0, 1, 10, 1, 0, 10) = 0; order(1, 2, 20, 2, 3, 20) = 1; order(2, 3, 30, 3, 4, 30) = 2; order(0, 4, 40, 4, 7, 40) = 3
            """;
        Script.run("when an order is gone, the later numbers decrease: the first", orders + """
            drop(0) = 50; count(2) = 3; ofOrder(2, 6) = 40; ofOrder(3, 6) = NO_SUCH
            ofOrder(0, 0) = 1; ofOrder(0, 1) = 2; ofOrder(0, 2) = 20; ofOrder(0, 3) = 2; ofOrder(0, 4) = 1; ofOrder(0, 5) = 1; ofOrder(0, 6) = 20
            ofOrder(1, 0) = 2; ofOrder(1, 1) = 3; ofOrder(1, 2) = 30; ofOrder(1, 3) = 3; ofOrder(1, 4) = 0; ofOrder(1, 5) = 2; ofOrder(1, 6) = 30""");
        Script.run("when an order is gone, the later numbers decrease: one between", orders + """
            drop(1) = 100; ofOrder(0, 6) = 10; ofOrder(1, 6) = 30; ofOrder(2, 6) = 40; ofOrder(3, 6) = NO_SUCH
            order(1, 1, 1, 1, 1, 50) = 3; ofOrder(3, 6) = 50""");
        Script.run("when an order is gone, the earlier numbers stay: the last", orders + """
            drop(3) = 200; ofOrder(0, 6) = 10; ofOrder(1, 6) = 20; ofOrder(2, 6) = 30; ofOrder(3, 6) = NO_SUCH""");
        Script.run("when an order is gone, the later numbers decrease: by fill", Walks.withPieces(100), orders + """
            fill(0) = 1; count(2) = 3; ofOrder(0, 6) = 20; fill(2) = 2; count(2) = 3; ofOrder(2, 3) = 2""");
        Script.run("up to 16 orders", """
            15 * order(0, 1, 1, 1, 0, 5); order(2, 1, 1, 1, 0, 6) = 15; order(0, 1, 1, 1, 0, 7) = TOO_MANY
            ofOrder(15, 6) = 6; ofOrder(16, 6) = NO_SUCH; drop(15) = 50; ofOrder(15, 6) = NO_SUCH
            order(0, 1, 1, 1, 0, 7) = 15; drop(0) = 50; ofOrder(14, 6) = 7; order(0, 1, 1, 1, 0, 8) = 15; count(2) = 16""");
    }

    private static void suitsFibreAndStrength() {
        Script.run("a piece suits if it has the fibre, and the strength or more", Walks.withPieces(50), """
            lay(1, 3, 2, 40) = 1; piece(1, 7) = 151
            order(0, 299, 10, 1, 0, 0) = 0; order(0, 300, 10, 1, 0, 0) = 1; order(0, 301, 10, 1, 0, 0) = 2
            order(1, 151, 10, 1, 0, 0) = 3; order(1, 152, 10, 1, 0, 0) = 4; order(2, 1, 10, 1, 0, 0) = 5
            ofOrder(0, 7) = 1; ofOrder(1, 7) = 1; ofOrder(2, 7) = 0; ofOrder(3, 7) = 1; ofOrder(4, 7) = 0; ofOrder(5, 7) = 0
            fill(5) = NOT_POSSIBLE; fill(4) = NOT_POSSIBLE; fill(2) = NOT_POSSIBLE; lengths() = "50 40"
            fill(3) = 1; lengths() = "50 30"; fill(1) = 1; fill(0) = 1; lengths() = "30 30";""");
        Script.run("a piece of no strength suits no order", Walks.plain(), """
            fibre(0, 1, 10); lay(0, 3, 1, 50) = 0; lay(0, 3, 1, 50) = 1; order(0, 1, 10, 1, 1, 0) = 0; ofOrder(0, 7) = 2
            join(0, 1) = 0; piece(0, 7) = 0; ofOrder(0, 7) = 0; fill(0) = NOT_POSSIBLE; test(0) = 0""");
    }

    private static void suitsSplices() {
        Script.run("a piece suits if it has no splices, unless they are allowed", Walks.withPieces(50, 50, 95), """
            join(0, 1) = 0; lengths() = "94 95"; order(0, 1, 90, 5, 0, 0) = 0; order(0, 1, 90, 5, 1, 0) = 1; order(0, 256, 1, 5, 1, 0) = 2
            ofOrder(0, 7) = 1; ofOrder(1, 7) = 2; ofOrder(2, 7) = 1
            fill(0) = 1; lengths() = "94"; ofOrder(0, 7) = 0; ofOrder(1, 7) = 1; fill(0) = NOT_POSSIBLE; fill(1) = 1; count(1) = 0""");
    }

    private static void suitsLength() {
        Script.run("a piece suits if it has the length or more", Walks.withPieces(50), """
            order(0, 1, 51, 1, 0, 0) = 0; ofOrder(0, 7) = 0; fill(0) = NOT_POSSIBLE
            order(0, 1, 50, 1, 0, 0) = 1; ofOrder(1, 7) = 1; order(0, 1, 49, 1, 0, 0) = 2; ofOrder(2, 7) = 1
            fill(1) = 1; count(1) = 0; fill(1) = NOT_POSSIBLE""");
        Script.run("lengths of 1 to 500", Walks.withPieces(1, 500), """
            order(0, 1, 1, 1, 0, 0) = 0; order(0, 1, 500, 1, 0, 0) = 1; ofOrder(0, 7) = 2; ofOrder(1, 7) = 1
            fill(0) = 1; lengths() = "500"; fill(0) = 1; count(1) = 0; count(4) = 2""");
    }

    private static void fillingTakesTheShortest() {
        Script.run("the shortest piece that suits", Walks.withPieces(70, 40, 39, 41), """
            order(0, 1, 40, 1, 0, 0) = 0; fill(0) = 1; lengths() = "70 39 41";""");
        Script.run("of several the one with the lowest number", Walks.withPieces(70, 60, 60, 60), """
            order(0, 1, 40, 1, 0, 0) = 0; fill(0) = 1; lengths() = "70 20 60 60"
            order(0, 1, 40, 1, 0, 0) = 0; fill(0) = 1; lengths() = "70 20 20 60";""");
        Script.run("the shortest that suits, not the shortest", Walks.withPieces(30, 30, 60), """
            join(0, 1) = 0; lay(1, 3, 1, 50) = 2; order(0, 1, 50, 1, 0, 0) = 0; fill(0) = 1; lengths() = "54 10 50";""");
    }

    private static void fillingGoesOn() {
        Script.run("as long as ropes are wanted", Walks.withPieces(100, 100), """
            order(0, 1, 20, 5, 0, 0) = 0; fill(0) = 5; lengths() = "100"; count(2) = 0
            order(0, 1, 20, 4, 0, 0) = 0; fill(0) = 4; lengths() = "20"; count(2) = 0""");
        Script.run("as long as some piece suits", Walks.withPieces(50, 100), """
            order(0, 1, 20, 20, 0, 0) = 0; fill(0) = 7; lengths() = "10"; ofOrder(0, 3) = 13; count(2) = 1; fill(0) = NOT_POSSIBLE
            ofOrder(0, 3) = 13; lay(0, 3, 1, 260) = 1; fill(0) = 13; count(2) = 0; lengths() = "10";""");
        Script.run("the shortest changes between cuts", Walks.withPieces(45, 50), """
            order(0, 1, 30, 1, 0, 0) = 0; fill(0) = 1; lengths() = "15 50"; order(0, 1, 12, 4, 0, 0) = 0; fill(0) = 4
            lengths() = "14"; account(0, 5) = 14""");
    }

    private static void fillingSellsForThePrice() {
        Script.run("each rope is sold for its price, 0 to 100000", Walks.withPieces(100), """
            order(0, 1, 1, 20, 0, 100000) = 0; order(0, 1, 1, 20, 0, 0) = 1; order(0, 1, 1, 1, 0, 1) = 2
            fill(0) = 20; count(4) = 20; count(5) = 2000000; fill(0) = 20; count(4) = 40; count(5) = 2000000
            fill(0) = 1; count(4) = 41; count(5) = 2000001; count(2) = 0""");
    }

    // ---- a day, accounts

    private static void aDayOfFines() {
        Script.run("FINE for each rope of an order that is due today or was due before", """
            order(0, 1, 1, 2, 4, 0) = 0; pass(1) = 1; count(6) = 0; pass(1) = 2; count(6) = 0; pass(1) = 3; count(6) = 100
            pass(1) = 4; count(6) = 200; order(0, 1, 1, 20, 0, 0) = 1; pass(1) = 5; count(6) = 1300
            order(0, 1, 1, 1, 2, 0) = 2; pass(1) = 6; count(6) = 2400; pass(1) = 7; count(6) = 3550""");
        Script.run("FINE for the ropes that are still wanted", Walks.withPieces(65), """
            order(0, 1, 20, 5, 0, 0) = 0; fill(0) = 3; pass(1) = 1; count(6) = 100; drop(0) = 100; pass(1) = 2; count(6) = 200""");
        Script.run("an order that is filled costs nothing", Walks.withPieces(65), """
            order(0, 1, 20, 3, 0, 0) = 0; finesIn(1) = 150; fill(0) = 3; finesIn(1) = 0; pass(1) = 1; count(6) = 0""");
    }

    private static void aDayOfHours() {
        Script.run("all HOURS are there again", Walks.plain(), """
            lay(0, 4, 1, 2000) = 0; count(3) = 8; set(HOURS, 20) = 24; count(3) = 4; pass(1) = 1; count(3) = 20
            lay(0, 4, 1, 2000) = 1; count(3) = 4; pass(2) = 3; count(3) = 20""");
    }

    private static void accounts() {
        Script.run("for each fibre: spun, store, pieces, sold, tested, ends", Walks.withPieces(40, 44), """
            order(0, 1, 35, 1, 0, 0) = 0; fill(0) = 1; lengths() = "44"
            account(0, 0) = 3000000; account(0, 1) = 2999622; account(0, 2) = 198; account(0, 3) = 157; account(0, 5) = 23
            test(0) = 300; account(0, 2) = 176; account(0, 4) = 22
            set(TEST, 30) = 5; test(0) = 300; account(0, 2) = 0; account(0, 4) = 157; account(0, 5) = 64
            account(0, 0) = 3000000; account(0, 1) = 2999622; account(0, 3) = 157; account(1, 0) = 3000000; account(1, 2) = 0
            spin(0, 5) = 2999627; account(0, 0) = 3000005""");
    }
}
