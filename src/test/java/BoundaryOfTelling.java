/** Boundaries of what it is, of the VILLAGE, and of promises 1 to 6. */
final class BoundaryOfTelling {
    private static final int LEAST = Integer.MIN_VALUE;
    private static final int MOST = Integer.MAX_VALUE;
    /** 54 letters, 18 STATEMENTS. */
    private static final String FIFTY_FOUR = "n3;n4;n3;n4;n3;n4;n3;n4;n3;n4;n3;n4;n3;n4;n3;n4;n3;n4;";
    /** 61 letters, 19 STATEMENTS. */
    private static final String SIXTY_ONE = FIFTY_FOUR + "w01,10;";

    private BoundaryOfTelling() {
    }

    static void all() {
        lastCall();
        lastCallOfToil();
        sixtyFourLetters();
        eachWithItsSign();
        places();
        placesAtFirst();
        placesToldOf();
        twoPlaces();
        minutesOfWays();
        wayEitherWay();
        gifts();
        least();
        personMore();
        roomForParts();
        kindLetters();
        placeOfWork();
        needs();
        worth();
        workMore();
        numbersBeginWithNought();
        atLeastOne();
        wrongLetter();
        wrongStatement();
        elseKindTwo();
        aheadOfIt();
        allOrNothing();
        newObject();
        feed();
        feedOrder();
        tapeHasNone();
        nothingIsCounted();
        person();
        work();
        minutes();
        minutesNone();
    }

    private static void lastCall() {
        Boundary.sentence(33, "An object is used for at most 512 calls after it has been made; what later calls answer is free.");
        HalfHere x = new HalfHere();
        for (int i = 0; i < 511; i++) {
            x.see(0);
        }
        Boundary.to("the 512th call", x.count(11), 511);
        x.see(0);
        x.village();
        Boundary.past("later calls come back", 0, 0);
    }

    private static void lastCallOfToil() {
        Boundary.sentence(13, "An object is used for at most 512 calls after it has been made");
        HalfHere x = Kit.told("p1,1,1,1;kp00,0,0,1;");
        x.split(0, 1);
        x.at(1, 0);
        int calls = 20 + 1 + 2;
        int tired = 0;
        while (calls < 511) {
            tired = x.toil(1, 600);
            calls++;
        }
        Boundary.to("the greatest TIRED", tired, 488L * 600 * 12);
        Boundary.to("the greatest CLOCK, the 512th call", x.partOf(1, 4), 488L * 600);
        x.toil(1, 600);
        Boundary.past("later calls come back", 0, 0);
    }

    private static void sixtyFourLetters() {
        Boundary.sentence(2, "A VILLAGE is told in letters, one by one (64 at most)");
        HalfHere x = new HalfHere();
        Boundary.feedAll(x, SIXTY_ONE + "n6");
        Boundary.to("the 64th letter", x.feed(';'), 64);
        Boundary.refused("the 65th letter", y -> Boundary.feedAll(y, SIXTY_ONE + "n6;"), y -> y.feed(';'), -6);
        x.feed(';');
        Boundary.to("64 letters", x.village(), 20);
        Boundary.to("the last came", x.count(0), 6);
        Boundary.fault(-1064, FIFTY_FOUR + "p10,10,10,");
    }

    private static void eachWithItsSign() {
        Boundary.sentence(3, "STATEMENTS, each with \";\" behind");
        Boundary.told(1, "n3;");
        Boundary.told(2, "n3;n4;");
        Boundary.fault(-1002, "n3");
        Boundary.fault(-1003, "n3;;");
        Boundary.fault(-1002, "n3n4;");
        Boundary.fault(-1002, "n3,");
        Boundary.fault(-1000, ";n3;");
        Boundary.fault(-1005, "w01,1:");
        Boundary.fault(-1008, "p1,1,1,1");
        Boundary.fault(-1010, "kp00,0,0,1");
    }

    private static void places() {
        Boundary.sentence(3, "\"n\" how many PLACES (a digit, 1 .. 6;");
        Boundary.told(1, "n1;");
        Boundary.told(1, "n6;");
        Boundary.to("count(0) after n1;", Kit.told("n1;").count(0), 1);
        Boundary.to("count(0) after n6;", Kit.told("n6;").count(0), 6);
        Boundary.to("minutes(5, 5) after n6;", Kit.told("n6;").minutes(5, 5), 0);
        Boundary.fault(-2000, "n0;");
        Boundary.fault(-2000, "n7;");
        Boundary.fault(-2000, "n9;");
        Boundary.fault(-1001, "n/;");
        Boundary.fault(-1001, "n:;");
        Boundary.fault(-1001, "n;");
        Boundary.fault(-1002, "n06;");
    }

    private static void placesAtFirst() {
        Boundary.sentence(3, "3 at first;");
        Boundary.told(1, "w02,1;");
        Boundary.told(1, "kp20,0,0,1;");
        Boundary.fault(-2000, BoundaryOfTelling::nobody, "w03,1;");
        Boundary.fault(-2000, BoundaryOfTelling::nobody, "w30,1;");
        Boundary.fault(-2000, BoundaryOfTelling::nobody, "kp30,0,0,1;");
    }

    private static void placesToldOf() {
        Boundary.sentence(3, "not fewer than are told of already, or PARTS are at)");
        Boundary.told(2, "w12,1;n3;");
        Boundary.fault(-2006, BoundaryOfTelling::nobody, "w12,1;n2;");
        Boundary.told(2, "w21,1;n3;");
        Boundary.fault(-2006, BoundaryOfTelling::nobody, "w21,1;n2;");
        Boundary.told(1, x -> Kit.tell(x, "n6;w05,1;"), "n6;");
        Boundary.fault(-2000, x -> Kit.tell(x, "n6;w05,1;"), "n5;");
        Boundary.told(1, x -> Kit.tell(x, "n6;kp40,0,0,1;"), "n5;");
        Boundary.fault(-2000, x -> Kit.tell(x, "n6;kp40,0,0,1;"), "n4;");
        Boundary.told(1, BoundaryOfTelling::partAtThree, "n4;");
        Boundary.fault(-2000, BoundaryOfTelling::partAtThree, "n3;");
        // None is told of by a PERSON, who is at PLACE 0, nor by a "n" before.
        Boundary.told(3, "n6;p1,1,1,1;n1;");
        Boundary.told(2, "w01,1;n2;");
        Boundary.fault(-2006, BoundaryOfTelling::nobody, "w01,1;n1;");
        // What came with a FAULT is not told of.
        Boundary.told(1, x -> Kit.tell(x, "w02,1;n0;"), "n1;");
    }

    private static void nobody(HalfHere x) {
        x.image();
    }

    private static void partAtThree(HalfHere x) {
        Kit.tell(x, "n6;w03,1;p1,1,1,1;");
        x.go(0, 3);
    }

    private static void twoPlaces() {
        Boundary.sentence(3, "\"w\" two digits (PLACES) \",\" MINUTES");
        Boundary.told(1, "w01,5;");
        Boundary.told(2, "n6;w45,5;");
        Boundary.fault(-2003, "n5;w45,5;");
        Boundary.fault(-2003, "n5;w54,5;");
        Boundary.fault(-1002, "w0,5;");
        Boundary.fault(-1003, "w012,5;");
        Boundary.fault(-1001, "w,5;");
        Boundary.fault(-1003, "w01;");
        Boundary.fault(-1002, "w0:,5;");
        Boundary.fault(-1001, "w/1,5;");
    }

    private static void minutesOfWays() {
        Boundary.sentence(3, "MINUTES (1 or 2 digits, 1 .. 60)");
        String[] told = {"w01,1;", "w01,60;", "w01,01;"};
        int[] minutes = {1, 60, 1};
        for (int i = 0; i < told.length; i++) {
            Boundary.told(1, told[i]);
            Boundary.to("minutes(0, 1) after " + told[i], Kit.told(told[i]).minutes(0, 1), minutes[i]);
        }
        Boundary.fault(-2000, "w01,0;");
        Boundary.fault(-2000, "w01,00;");
        Boundary.fault(-2000, "w01,61;");
        Boundary.fault(-2000, "w01,99;");
        Boundary.fault(-1004, "w01,;");
        Boundary.fault(-1006, "w01,060;");
    }

    private static void wayEitherWay() {
        Boundary.sentence(6, "a WAY, either way (told again it takes the place);");
        HalfHere x = Kit.told("w01,20;");
        Boundary.to("minutes(0, 1)", x.minutes(0, 1), 20);
        Boundary.to("minutes(1, 0)", x.minutes(1, 0), 20);
        Kit.tell(x, "w10,21;");
        Boundary.past("minutes(0, 1), told again more", x.minutes(0, 1), 21);
        Boundary.past("minutes(1, 0), told again more", x.minutes(1, 0), 21);
        Kit.tell(x, "w01,19;w01,18;");
        Boundary.past("minutes(1, 0), told again less", x.minutes(1, 0), 18);
    }

    private static void gifts() {
        Boundary.sentence(4, "\"p\" STRENGTH \",\" WITS \",\" VOICE (1 or 2 digits each, 0 .. 60)");
        Boundary.told(1, "p0,0,0,1;");
        Boundary.told(1, "p60,60,60,1;");
        HalfHere x = Kit.told("p60,0,00,1;p00,60,0,1;p0,00,60,1;");
        int[][] due = {{60, 0, 0}, {0, 60, 0}, {0, 0, 60}};
        for (int person = 0; person < 3; person++) {
            for (int what = 0; what < 3; what++) {
                Boundary.to("person(" + person + ", " + what + ")", x.person(person, what), due[person][what]);
            }
        }
        Boundary.fault(-2000, "p61,0,0,1;");
        Boundary.fault(-2000, "p0,61,0,1;");
        Boundary.fault(-2000, "p0,0,61,1;");
        Boundary.fault(-2000, "p99,99,99,1;");
        Boundary.fault(-1003, "p060,0,0,1;");
        Boundary.fault(-1005, "p0,060,0,1;");
        Boundary.fault(-1007, "p0,0,060,1;");
        Boundary.fault(-1001, "p,0,0,1;");
        Boundary.fault(-1003, "p0,,0,1;");
        Boundary.fault(-1005, "p0,0,,1;");
    }

    private static void least() {
        Boundary.sentence(4, "LEAST (1 or 2 digits, 1 .. 12)");
        String[] told = {"p0,0,0,1;", "p0,0,0,12;", "p0,0,0,01;"};
        int[] least = {1, 12, 1};
        for (int i = 0; i < told.length; i++) {
            Boundary.told(1, told[i]);
            Boundary.to("person(0, 3) after " + told[i], Kit.told(told[i]).person(0, 3), least[i]);
        }
        Boundary.fault(-2000, "p0,0,0,0;");
        Boundary.fault(-2000, "p0,0,0,00;");
        Boundary.fault(-2000, "p0,0,0,13;");
        Boundary.fault(-2000, "p0,0,0,99;");
        Boundary.fault(-1007, "p0,0,0,;");
        Boundary.fault(-1009, "p0,0,0,012;");
        Boundary.fault(-1006, "p0,0,0;");
    }

    private static void five(HalfHere x) {
        Kit.tell(x, "p1,1,1,1;p2,1,1,1;p3,1,1,1;p4,1,1,1;p5,1,1,1;");
    }

    private static void six(HalfHere x) {
        five(x);
        Kit.tell(x, "p6,1,1,1;");
        Boundary.bustle(x);
    }

    private static void personMore() {
        Boundary.sentence(4, "a PERSON more (6 at most), whole at PLACE 0;");
        Boundary.told(1, BoundaryOfTelling::five, "p6,1,1,1;");
        HalfHere x = Boundary.after(BoundaryOfTelling::six);
        Boundary.to("count(1)", x.count(1), 6);
        Boundary.to("person(5, 0)", x.person(5, 0), 6);
        Boundary.to("TWELFTHS of the sixth", x.partOf(5, 1), 12);
        Boundary.to("PLACE of the sixth", x.partOf(5, 2), 0);
        Boundary.fault(-2000, BoundaryOfTelling::six, "p7,1,1,1;");
        Boundary.fault(-2009, BoundaryOfTelling::five, "p6,1,1,1;p7,1,1,1;");
        // One who is all LOST is a PERSON still.
        Boundary.fault(-2000, y -> {
            six(y);
            y.lose(3);
        }, "p7,1,1,1;");
    }

    private static void twentyThree(HalfHere x) {
        twentyFour(x);
        x.lose(7);
    }

    private static void twentyFour(HalfHere x) {
        Kit.tell(x, "p1,1,1,1;p1,1,1,1;");
        for (int i = 0; i < 11; i++) {
            x.split(0, 1);
            x.split(1, 1);
        }
        Boundary.bustle(x);
    }

    private static void roomForParts() {
        Boundary.sentence(3, "no room for more)");
        Boundary.told(1, BoundaryOfTelling::twentyThree, "p1,1,1,1;");
        HalfHere x = Boundary.after(BoundaryOfTelling::twentyThree);
        Kit.tell(x, "p1,1,1,1;");
        Boundary.to("the last number is the new PERSON's whole", x.partOf(7, 0), 2);
        Boundary.fault(-2000, BoundaryOfTelling::twentyFour, "p1,1,1,1;");
        Boundary.fault(-2009, BoundaryOfTelling::twentyThree, "p1,1,1,1;p1,1,1,1;");
    }

    private static void kindLetters() {
        Boundary.sentence(5, "\"k\" a letter of a KIND");
        String kinds = "pwltsh";
        for (int kind = 0; kind < 6; kind++) {
            String letters = "k" + kinds.charAt(kind) + "00,0,0,1;";
            Boundary.told(1, letters);
            Boundary.to("work(0, 0) after " + letters, Kit.told(letters).work(0, 0), kind);
        }
        for (char other : "oqvxkmurgiPH0n;,".toCharArray()) {
            Boundary.fault(-1001, "k" + other + "00,0,0,1;");
        }
        Boundary.fault(-1001, "k");
    }

    private static void placeOfWork() {
        Boundary.sentence(5, "a PLACE (a digit), STRENGTH");
        Boundary.told(1, "kp00,0,0,1;");
        Boundary.told(1, "kp20,0,0,1;");
        Boundary.told(2, "n6;kp50,0,0,1;");
        Boundary.to("work(0, 1)", Kit.told("n6;kp50,0,0,1;").work(0, 1), 5);
        Boundary.fault(-2000, BoundaryOfTelling::nobody, "kp30,0,0,1;");
        Boundary.fault(-2003, "n6;kp60,0,0,1;");
        Boundary.fault(-1002, "kp,0,0,1;");
        Boundary.fault(-1003, "kp0,0,0,1;");
    }

    private static void needs() {
        Boundary.sentence(5, "STRENGTH \",\" WITS \",\" VOICE (1 to 3 digits each, 0 .. 200)");
        Boundary.told(1, "kp00,0,0,1;");
        Boundary.told(1, "kp0200,200,200,1;");
        HalfHere x = Kit.told("kp0200,0,00,1;kp0000,200,0,1;kp00,000,200,1;");
        int[][] due = {{200, 0, 0}, {0, 200, 0}, {0, 0, 200}};
        for (int work = 0; work < 3; work++) {
            for (int what = 0; what < 3; what++) {
                Boundary.to("work(" + work + ", " + (what + 2) + ")", x.work(work, what + 2), due[work][what]);
            }
        }
        Boundary.fault(-2000, "kp0201,0,0,1;");
        Boundary.fault(-2000, "kp00,201,0,1;");
        Boundary.fault(-2000, "kp00,0,201,1;");
        Boundary.fault(-2000, "kp0999,999,999,1;");
        Boundary.fault(-1006, "kp00200,0,0,1;");
        Boundary.fault(-1008, "kp00,0200,0,1;");
        Boundary.fault(-1010, "kp00,0,0200,1;");
        Boundary.fault(-1005, "kp00,,0,1;");
        Boundary.fault(-1007, "kp00,0,,1;");
    }

    private static void worth() {
        Boundary.sentence(5, "\",\" WORTH (1 or 2 digits): a WORK more");
        String[] told = {"kp00,0,0,0;", "kp00,0,0,99;", "kp00,0,0,07;"};
        int[] worth = {0, 99, 7};
        for (int i = 0; i < told.length; i++) {
            Boundary.told(1, told[i]);
            Boundary.to("work(0, 5) after " + told[i], Kit.told(told[i]).work(0, 5), worth[i]);
        }
        Boundary.fault(-1011, "kp00,0,0,099;");
        Boundary.fault(-1009, "kp00,0,0,;");
        Boundary.fault(-1008, "kp00,0,0;");
    }

    private static void fiveWorks(HalfHere x) {
        Kit.tell(x, "kp00,0,0,1;kp00,0,0,2;kp00,0,0,3;kp00,0,0,4;kp00,0,0,5;");
    }

    private static void sixWorks(HalfHere x) {
        fiveWorks(x);
        Kit.tell(x, "kp00,0,0,6;");
        Boundary.bustle(x);
    }

    private static void workMore() {
        Boundary.sentence(5, "a WORK more (6 at most).");
        Boundary.told(1, BoundaryOfTelling::fiveWorks, "kp00,0,0,6;");
        HalfHere x = Boundary.after(BoundaryOfTelling::sixWorks);
        Boundary.to("count(2)", x.count(2), 6);
        Boundary.to("work(5, 5)", x.work(5, 5), 6);
        Boundary.told(1, BoundaryOfTelling::sixWorks, "n1;");
        Boundary.fault(-2000, BoundaryOfTelling::sixWorks, "kp00,0,0,7;");
        Boundary.fault(-2011, BoundaryOfTelling::fiveWorks, "kp00,0,0,6;kp00,0,0,7;");
    }

    private static void numbersBeginWithNought() {
        Boundary.sentence(3, "Numbers may begin with 0.");
        HalfHere x = Kit.told("w01,09;p01,02,03,04;kp0005,006,07,08;");
        Boundary.to("minutes(0, 1)", x.minutes(0, 1), 9);
        Boundary.to("person(0, 0)", x.person(0, 0), 1);
        Boundary.to("person(0, 3)", x.person(0, 3), 4);
        Boundary.to("work(0, 2)", x.work(0, 2), 5);
        Boundary.to("work(0, 5)", x.work(0, 5), 8);
        Boundary.fault(-1006, "w01,009;");
        Boundary.fault(-1003, "p001,2,3,4;");
        Boundary.fault(-1006, "kp00005,6,7,8;");
        Boundary.fault(-1011, "kp05,6,7,008;");
    }

    private static void atLeastOne() {
        Boundary.sentence(3, "At least one STATEMENT.");
        Boundary.told(1, "n3;");
        Boundary.fault(-1000, "");
        Boundary.fault(-1000, ";");
    }

    private static void wrongLetter() {
        Boundary.sentence(3, "kind 1 the place of the first letter with which no VILLAGE can go on (the end, if something lacks): "
            + "-1000 less the place;");
        Boundary.told(20, SIXTY_ONE + "n6;");
        Boundary.fault(-1063, SIXTY_ONE + "n6x");
        Boundary.fault(-1000, "x");
        Boundary.fault(-1000, "N3;");
        Boundary.fault(-1000, "\0n3;");
        Boundary.fault(-1003, "n3;x");
        Boundary.fault(-1003, "n3;\u00ff");
        Boundary.fault(-1001, "n");
        Boundary.fault(-1008, "n3;w01,1");
        Boundary.fault(-1064, SIXTY_ONE + "w01");
        Boundary.fault(-1063, SIXTY_ONE + "n6n");
    }

    private static void wrongStatement() {
        Boundary.sentence(3, "kind 2 the place of the first letter of the first STATEMENT that is not as it must be");
        Boundary.told(20, SIXTY_ONE + "n2;");
        Boundary.fault(-2061, BoundaryOfTelling::nobody, SIXTY_ONE + "n1;");
        Boundary.fault(-2000, "n0;n3;");
        Boundary.fault(-2003, "n4;n0;");
        Boundary.fault(-2003, "n4;n0;w00,1;");
        Boundary.fault(-2007, "w01,10;w11,10;");
    }

    private static void elseKindTwo() {
        Boundary.sentence(3, "else kind 2");
        Boundary.told(2, "n4;n5;");
        Boundary.past("kind 2 alone", Kit.tell(new HalfHere(), "n0;n5;"), -2000);
        Boundary.fault(-1003, "n0;x");
        Boundary.fault(-1004, "n0;n");
        Boundary.fault(-1006, "w00,1;;");
    }

    private static void aheadOfIt() {
        Boundary.sentence(3, "a number out of range, a PLACE that is not there ahead of it, two alike,");
        Boundary.told(2, "n4;w03,1;");
        Boundary.fault(-2000, BoundaryOfTelling::nobody, "w03,1;n4;");
        Boundary.told(2, "n4;kp30,0,0,1;");
        Boundary.fault(-2000, BoundaryOfTelling::nobody, "kp30,0,0,1;n4;");
        Boundary.told(1, "w12,1;");
        Boundary.fault(-2000, "w11,1;");
        Boundary.told(1, "w01,1;");
        Boundary.fault(-2000, "w00,1;");
    }

    private static void allOrNothing() {
        Boundary.sentence(3, "Without FAULT all of it comes, with one nothing.");
        String letters = "n6;w05,7;p1,2,3,4;kp57,8,9,6;";
        HalfHere x = Kit.told(letters + "n6;");
        Boundary.to("PLACES", x.count(0), 6);
        Boundary.to("minutes(0, 5)", x.minutes(0, 5), 7);
        Boundary.to("person(0, 3)", x.person(0, 3), 4);
        Boundary.to("work(0, 5)", x.work(0, 5), 6);
        Boundary.fault(-2029, letters + "n5;");
        Boundary.fault(-1030, letters + "n");
    }

    private static void newObject() {
        Boundary.sentence(1, "Three PLACES, nobody.");
        HalfHere x = new HalfHere();
        Boundary.to("count(0)", x.count(0), 3);
        for (int what = 1; what <= 6; what++) {
            Boundary.to("count(" + what + ")", x.count(what), 0);
        }
        for (int what = 11; what <= 16; what++) {
            Boundary.to("count(" + what + ")", x.count(what), 0);
        }
        Boundary.to("minutes(2, 2)", x.minutes(2, 2), 0);
        Boundary.past("minutes(3, 3)", x.minutes(3, 3), -1);
        Boundary.past("person(0, 0)", x.person(0, 0), -1);
        Boundary.past("partOf(0, 0)", x.partOf(0, 0), -1);
        Boundary.past("work(0, 0)", x.work(0, 0), -1);
    }

    private static void full(HalfHere x) {
        Boundary.settled(x);
        Boundary.feedAll(x, SIXTY_ONE + "n6;");
    }

    private static void feed() {
        Boundary.sentence(2, "A letter (0 .. 255) comes: how many THE TAPE has. -4; -6 (255; 64, too).");
        HalfHere x = new HalfHere();
        Boundary.to("feed(0)", x.feed(0), 1);
        Boundary.to("feed(255)", x.feed(255), 2);
        for (int i = 3; i <= 64; i++) {
            Boundary.to("feed(59), the " + i + "th", x.feed(59), i);
        }
        Boundary.refused("feed(-1)", Boundary::busy, y -> y.feed(-1), -4);
        Boundary.refused("feed(least)", Boundary::busy, y -> y.feed(LEAST), -4);
        Boundary.refused("feed(256)", Boundary::busy, y -> y.feed(256), -6);
        Boundary.refused("feed(most)", Boundary::busy, y -> y.feed(MOST), -6);
        Boundary.refused("feed(59), the 65th", BoundaryOfTelling::full, y -> y.feed(59), -6);
    }

    private static void feedOrder() {
        Boundary.sentence(2, "the first that fits in the order in which it tells them");
        HalfHere x = Boundary.after(BoundaryOfTelling::full);
        Boundary.to("feed(0), when full", x.feed(0), -6);
        Boundary.refused("feed(-1), when full", BoundaryOfTelling::full, y -> y.feed(-1), -4);
        Boundary.refused("feed(256), when full", BoundaryOfTelling::full, y -> y.feed(256), -6);
    }

    private static void tapeHasNone() {
        Boundary.sentence(3, "THE TAPE becomes a VILLAGE, and has none (by a FAULT, too)");
        String[] tapes = {"n3;", SIXTY_ONE + "n6;", "n0;", "x", "n", FIFTY_FOUR + "p10,10,10,"};
        for (String letters : tapes) {
            HalfHere x = new HalfHere();
            Kit.tell(x, letters);
            Boundary.to("count(6) after " + letters, x.count(6), 0);
            Boundary.past("the next letter after " + letters, x.feed('n'), 1);
        }
        HalfHere x = new HalfHere();
        Kit.tell(x, "n0;");
        Boundary.past("village() again", x.village(), -1000);
    }

    private static void nothingIsCounted() {
        Boundary.sentence(3, "how many STATEMENTS; the FAULT (nothing is counted).");
        Boundary.told(1, "n3;");
        Boundary.told(2, "n3;n3;");
        HalfHere x = new HalfHere();
        Kit.tell(x, "n0;");
        Kit.tell(x, "x");
        Kit.tell(x, "");
        for (int what = 11; what <= 16; what++) {
            Boundary.past("count(" + what + ") after FAULTS", x.count(what), 0);
        }
    }

    private static void person() {
        Boundary.sentence(4, "Of a PERSON: 0 STRENGTH, 1 WITS, 2 VOICE, 3 LEAST, 4 all TWELFTHS that are left, 5 how many PARTS. -1; -2.");
        HalfHere x = Boundary.after(Boundary::busy);
        int[][] due = {{12, 6, 3, 3, 12, 2}, {20, 0, 9, 4, 12, 1}};
        for (int person = 0; person < 2; person++) {
            for (int what = 0; what <= 5; what++) {
                Boundary.to("person(" + person + ", " + what + ")", x.person(person, what), due[person][what]);
            }
        }
        x.lose(1);
        Boundary.to("person(1, 4), all LOST", x.person(1, 4), 0);
        Boundary.to("person(1, 5), all LOST", x.person(1, 5), 0);
        Boundary.to("person(1, 0), all LOST", x.person(1, 0), 20);
        for (int none : new int[] {2, -1, 6, LEAST, MOST}) {
            Boundary.refused("person(" + none + ", 0)", Boundary::busy, y -> y.person(none, 0), -1);
        }
        for (int none : new int[] {6, -1, LEAST, MOST}) {
            Boundary.refused("person(1, " + none + ")", Boundary::busy, y -> y.person(1, none), -2);
        }
        Boundary.refused("person(2, 6)", Boundary::busy, y -> y.person(2, 6), -1);
        Boundary.refused("person(0, 0), nobody", BoundaryOfTelling::nobody, y -> y.person(0, 0), -1);
    }

    private static void work() {
        Boundary.sentence(5, "Of a WORK: 0 KIND (0 p, 1 w, 2 l, 3 t, 4 s, 5 h), 1 PLACE, 2 STRENGTH, 3 WITS, 4 VOICE, 5 WORTH. -1; -2.");
        HalfHere x = Boundary.after(Boundary::busy);
        int[][] due = {{0, 0, 10, 2, 0, 7}, {3, 1, 5, 0, 0, 8}, {1, 2, 0, 0, 1, 5}};
        for (int work = 0; work < 3; work++) {
            for (int what = 0; what <= 5; what++) {
                Boundary.to("work(" + work + ", " + what + ")", x.work(work, what), due[work][what]);
            }
        }
        for (int none : new int[] {3, -1, 6, LEAST, MOST}) {
            Boundary.refused("work(" + none + ", 0)", Boundary::busy, y -> y.work(none, 0), -1);
        }
        for (int none : new int[] {6, -1, LEAST, MOST}) {
            Boundary.refused("work(2, " + none + ")", Boundary::busy, y -> y.work(2, none), -2);
        }
        Boundary.refused("work(3, 6)", Boundary::busy, y -> y.work(3, 6), -1);
        Boundary.refused("work(0, 0), none", BoundaryOfTelling::nobody, y -> y.work(0, 0), -1);
    }

    private static void minutes() {
        Boundary.sentence(6, "-1 either.");
        HalfHere x = Boundary.after(Boundary::busy);
        Boundary.to("minutes(0, 0)", x.minutes(0, 0), 0);
        Boundary.to("minutes(3, 3)", x.minutes(3, 3), 0);
        for (int none : new int[] {4, -1, 6, LEAST, MOST}) {
            Boundary.refused("minutes(" + none + ", 0)", Boundary::busy, y -> y.minutes(none, 0), -1);
            Boundary.refused("minutes(0, " + none + ")", Boundary::busy, y -> y.minutes(0, none), -1);
        }
        Boundary.refused("minutes(4, 4)", Boundary::busy, y -> y.minutes(4, 4), -1);
    }

    private static void minutesNone() {
        Boundary.sentence(6, "The least MINUTES between two PLACES; -9 none.");
        HalfHere x = Kit.told("n6;w01,60;w12,60;w23,60;w34,60;w45,60;");
        Boundary.to("minutes(0, 5), over all", x.minutes(0, 5), 300);
        Boundary.to("minutes(5, 0), over all", x.minutes(5, 0), 300);
        Kit.tell(x, "w02,60;");
        Boundary.past("minutes(0, 3), a shorter one", x.minutes(0, 3), 120);
        Kit.tell(x, "w01,9;w02,8;w05,60;");
        Boundary.past("minutes(1, 2), over PLACE 0", x.minutes(1, 2), 17);
        Boundary.past("minutes(4, 1), over PLACES 5 and 0", x.minutes(4, 1), 129);
        Kit.tell(x, "w05,59;w35,3;");
        Boundary.past("minutes(2, 5), one less over PLACE 3", x.minutes(2, 5), 63);
        Boundary.past("minutes(1, 3), over PLACES 0 and 5", x.minutes(1, 3), 71);
        x = Kit.told("n4;w01,30;w12,30;w02,60;");
        Boundary.to("minutes(0, 2), as much either way", x.minutes(0, 2), 60);
        Boundary.past("minutes(0, 3)", x.minutes(0, 3), -9);
        Boundary.past("minutes(3, 0)", x.minutes(3, 0), -9);
        Boundary.past("-9 is not counted", x.count(11), 0);
    }
}
