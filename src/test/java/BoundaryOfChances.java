/** Boundaries of CHANCE, TOGETHER, KNOWN, the ROW, the IMAGE and counts, promises 26 to 33. */
final class BoundaryOfChances {
    private static final int LEAST = Integer.MIN_VALUE;
    private static final int MOST = Integer.MAX_VALUE;

    private BoundaryOfChances() {
    }

    static void all() {
        chanceAtNought();
        chanceLeastTerms();
        chanceNine();
        chance();
        chanceOrder();
        together();
        togetherLeastPlace();
        togetherNone();
        togetherRefused();
        known();
        knownRefused();
        rowNumbers();
        row();
        rowOrder();
        judgedFirst();
        judgedEnd();
        judge();
        imageParts();
        imageNotTheRow();
        onAsThen();
        on();
        countMost();
        countOther();
        countRefusals();
        longs();
    }

    /** Person 0 with 5 TWELFTHS at PLACE 0, 3 and 4 elsewhere; person 1 whole elsewhere. */
    private static void spread(HalfHere x) {
        Kit.tell(x, "w01,10;w12,10;p1,1,1,2;p1,1,1,1;");
        x.split(0, 3);
        x.split(0, 4);
        x.go(2, 1);
        x.go(3, 2);
        x.go(1, 2);
        Boundary.bustle(x);
    }

    private static void line(boolean isTo, HalfHere x, int hundredths, int what, long above, long below) {
        String call = hundredths + " hundredths, what " + what;
        if (isTo) {
            Boundary.to(call + ", above", x.chance(0, hundredths, what, 0), above);
            Boundary.to(call + ", below", x.chance(0, hundredths, what, 1), below);
        } else {
            Boundary.past(call + ", above", x.chance(0, hundredths, what, 0), above);
            Boundary.past(call + ", below", x.chance(0, hundredths, what, 1), below);
        }
    }

    private static void chanceAtNought() {
        Boundary.sentence(26, "CHANCE: each PART but those of a PERSON at PLACE 0 is LOST by so many hundredths, on its own:");
        HalfHere x = Kit.told("w01,10;p1,1,1,1;");
        line(true, x, 100, 0, 12, 1);
        line(true, x, 100, 1, 1, 1);
        x.go(0, 1);
        line(false, x, 100, 0, 0, 1);
        line(false, x, 100, 1, 0, 1);
        x.go(0, 0);
        line(true, x, 99, 0, 12, 1);
        x.split(0, 1);
        x.go(1, 1);
        line(false, x, 100, 0, 11, 1);
        line(false, x, 100, 1, 0, 1);
        x.lose(0);
        line(false, x, 100, 0, 0, 1);
        line(false, x, 99, 1, 1, 100);
    }

    private static void chanceLeastTerms() {
        Boundary.sentence(26, "the mean of TWELFTHS left of a PERSON, in least terms; that all is left of it, in least terms.");
        HalfHere x = Boundary.after(BoundaryOfChances::spread);
        line(true, x, 0, 0, 12, 1);
        line(true, x, 0, 1, 1, 1);
        line(false, x, 1, 0, 1193, 100);
        line(false, x, 1, 1, 9801, 10000);
        line(false, x, 2, 0, 593, 50);
        line(false, x, 2, 1, 2401, 2500);
        line(false, x, 50, 0, 17, 2);
        line(false, x, 50, 1, 1, 4);
        line(false, x, 99, 0, 507, 100);
        line(false, x, 99, 1, 1, 10000);
        line(true, x, 100, 0, 5, 1);
        line(true, x, 100, 1, 0, 1);
    }

    /** Person 0 in one TWELFTH each, the first so many at PLACE 1; person 1 whole. */
    private static void elsewhere(HalfHere x, int parts) {
        Kit.tell(x, "w01,10;p1,1,1,1;p1,1,1,1;");
        for (int i = 0; i < 11; i++) {
            x.split(0, 1);
        }
        for (int part = 2; part < 2 + parts; part++) {
            x.go(part, 1);
        }
        Boundary.bustle(x);
    }

    private static void chanceNine() {
        Boundary.sentence(26, "-6 (100; more than 9 PARTS elsewhere);");
        HalfHere x = Boundary.after(y -> elsewhere(y, 9));
        line(true, x, 1, 1, 913517247483640899L, 1000000000000000000L);
        line(true, x, 99, 1, 1, 1000000000000000000L);
        line(true, x, 100, 1, 0, 1);
        line(true, x, 0, 1, 1, 1);
        line(true, x, 1, 0, 1191, 100);
        x.go(1, 1);
        line(true, x, 1, 0, 1191, 100);
        for (int what = 0; what <= 1; what++) {
            for (int part = 0; part <= 1; part++) {
                int which = what;
                int line = part;
                Boundary.refusedLong("ten elsewhere, what " + what + ", part " + part, y -> elsewhere(y, 10),
                    y -> y.chance(0, 1, which, line), -6);
            }
        }
        Boundary.refusedLong("ten elsewhere, 0 hundredths", y -> elsewhere(y, 10), y -> y.chance(0, 0, 0, 0), -6);
        Boundary.to("the other PERSON has none elsewhere", Boundary.after(y -> elsewhere(y, 10)).chance(1, 1, 0, 0), 12);
        HalfHere back = Boundary.after(y -> elsewhere(y, 10));
        back.go(11, 0);
        Boundary.to("one comes back", back.chance(0, 100, 0, 0), 3);
    }

    private static void chance() {
        Boundary.sentence(26, "Refused as told: -1; -2 either; -4; -6 (100; more than 9 PARTS elsewhere); -3 nothing is left of it.");
        HalfHere x = Boundary.after(BoundaryOfChances::spread);
        Boundary.to("chance(0, 0, 0, 0)", x.chance(0, 0, 0, 0), 12);
        Boundary.to("chance(1, 100, 1, 1)", x.chance(1, 100, 1, 1), 1);
        for (int none : new int[] {2, -1, 6, LEAST, MOST}) {
            Boundary.refusedLong("chance(" + none + ", 0, 0, 0)", BoundaryOfChances::spread, y -> y.chance(none, 0, 0, 0), -1);
        }
        for (int none : new int[] {2, -1, LEAST, MOST}) {
            Boundary.refusedLong("chance(0, 0, " + none + ", 0)", BoundaryOfChances::spread, y -> y.chance(0, 0, none, 0), -2);
            Boundary.refusedLong("chance(0, 0, 0, " + none + ")", BoundaryOfChances::spread, y -> y.chance(0, 0, 0, none), -2);
        }
        for (int below : new int[] {-1, LEAST}) {
            Boundary.refusedLong("chance(0, " + below + ", 0, 0)", BoundaryOfChances::spread, y -> y.chance(0, below, 0, 0), -4);
        }
        for (int above : new int[] {101, MOST}) {
            Boundary.refusedLong("chance(0, " + above + ", 0, 0)", BoundaryOfChances::spread, y -> y.chance(0, above, 0, 0), -6);
        }
        x.lose(0);
        x.lose(2);
        Boundary.to("one PART is left", x.chance(0, 0, 0, 0), 4);
        Boundary.refusedLong("nothing is left", BoundaryOfChances::lost, y -> y.chance(1, 0, 0, 0), -3);
        Boundary.refusedLong("nothing is left, all", BoundaryOfChances::lost, y -> y.chance(1, 100, 1, 1), -3);
    }

    private static void lost(HalfHere x) {
        spread(x);
        x.lose(1);
    }

    private static void chanceOrder() {
        Boundary.sentence(26, "the first that fits in the order in which it tells them");
        Boundary.to("-3 alone", Boundary.after(BoundaryOfChances::lost).chance(1, 100, 0, 0), 4000000000000000003L);
        Boundary.refusedLong("all: nobody", BoundaryOfChances::lost, y -> y.chance(2, -1, 2, 2), -1);
        Boundary.refusedLong("what ahead of below", BoundaryOfChances::lost, y -> y.chance(1, -1, 2, 0), -2);
        Boundary.refusedLong("part ahead of above", BoundaryOfChances::lost, y -> y.chance(1, 101, 0, -1), -2);
        Boundary.refusedLong("below ahead of nothing left", BoundaryOfChances::lost, y -> y.chance(1, -1, 0, 0), -4);
        Boundary.refusedLong("below ahead of ten elsewhere", y -> elsewhere(y, 10), y -> y.chance(0, -1, 0, 0), -4);
        Boundary.refusedLong("above ahead of nothing left", BoundaryOfChances::lost, y -> y.chance(1, 101, 0, 0), -6);
        Boundary.refusedLong("above, ten elsewhere", y -> elsewhere(y, 10), y -> y.chance(0, 101, 0, 0), -6);
    }

    private static void where(boolean isTo, String when, HalfHere x, int minute, int place) {
        if (isTo) {
            Boundary.to(when + ", MINUTE", x.together(0, 0), minute);
            Boundary.to(when + ", PLACE", x.together(0, 1), place);
        } else {
            Boundary.past(when + ", MINUTE", x.together(0, 0), minute);
            Boundary.past(when + ", PLACE", x.together(0, 1), place);
        }
    }

    private static void together() {
        Boundary.sentence(27, "TOGETHER: the least MINUTE at which all PARTS of a PERSON can be at one PLACE, "
            + "all going at once from where and when they are;");
        HalfHere x = Kit.told("n4;w01,10;w12,20;p1,1,1,1;p1,1,1,1;");
        where(true, "one PART, at once", x, 0, 0);
        x.rest(0, 5);
        where(true, "one PART, where it is", x, 5, 0);
        x.split(0, 6);
        where(true, "two at one PLACE", x, 5, 0);
        x.go(2, 2);
        where(false, "5 at 0, 35 at 2: 35 at 2", x, 35, 2);
        x.rest(0, 19);
        where(false, "24 at 0, 35 at 2: 54 at 2", x, 54, 2);
        x.rest(0, 1);
        where(true, "25 at 0, 35 at 2: 55 at 1 and at 2", x, 55, 1);
        x.rest(0, 11);
        where(false, "36 at 0, 35 at 2: 55 at 1 alone", x, 55, 1);
        x.rest(1, 600);
        where(true, "the other PERSON does not count", x, 55, 1);
    }

    private static void togetherLeastPlace() {
        Boundary.sentence(27, "the PLACE, of several the least; -9.");
        HalfHere x = Kit.told("w12,10;w20,10;w01,10;p1,1,1,1;");
        x.split(0, 6);
        x.go(1, 2);
        x.go(0, 1);
        where(true, "10 at 1, 10 at 2: 20 at each", x, 20, 0);
        Kit.tell(x, "w01,11;");
        where(false, "20 at 1 and 2", x, 20, 1);
        Kit.tell(x, "w01,9;");
        where(false, "20 at 0 by the later", x, 20, 0);
        x.rest(0, 1);
        where(false, "11 at 1: 20 at 0 and 1", x, 20, 0);
        x.rest(0, 1);
        where(false, "12 at 1: 20 at 1", x, 20, 1);
    }

    private static void togetherNone() {
        Boundary.sentence(27, "TOGETHER: the MINUTE (what 0), the PLACE (1); -9.");
        // WAYS never go, so all PARTS of one, who came from PLACE 0, can always come together: -9 has no case.
        HalfHere x = Kit.told("n6;w01,60;w12,60;w23,60;w34,60;w45,60;p1,1,1,1;");
        x.split(0, 6);
        x.go(0, 5);
        where(true, "300 at 5, 0 at 0", x, 300, 5);
        x.rest(1, 240);
        where(true, "300 at 5, 240 at 0: 420 at 2 or 3", x, 420, 3);
        x = Kit.told("n6;p1,1,1,1;");
        where(false, "no way to any other", x, 0, 0);
    }

    private static void togetherRefused() {
        Boundary.sentence(27, "-9. -1; -2; -3 nothing is left of it.");
        HalfHere x = Boundary.after(BoundaryOfChances::spread);
        Boundary.to("together(0, 0)", x.together(0, 0), 21);
        Boundary.to("together(0, 1)", x.together(0, 1), 2);
        for (int none : new int[] {2, -1, 6, LEAST, MOST}) {
            Boundary.refused("together(" + none + ", 0)", BoundaryOfChances::spread, y -> y.together(none, 0), -1);
        }
        for (int none : new int[] {2, -1, LEAST, MOST}) {
            Boundary.refused("together(0, " + none + ")", BoundaryOfChances::spread, y -> y.together(0, none), -2);
        }
        x.lose(0);
        x.lose(2);
        Boundary.to("one PART is left", x.together(0, 0), 20);
        Boundary.refused("nothing is left", BoundaryOfChances::lost, y -> y.together(1, 0), -3);
        Boundary.refused("nothing is left, PLACE", BoundaryOfChances::lost, y -> y.together(1, 1), -3);
        Boundary.refused("nothing is left, another what", BoundaryOfChances::lost, y -> y.together(1, 2), -2);
        Boundary.refused("nobody, another what", BoundaryOfChances::lost, y -> y.together(2, 2), -1);
    }

    private static void known() {
        Boundary.sentence(28, "KNOWN: PLACES (bits) that all PARTS of a PERSON together have SEEN; that all have.");
        HalfHere x = Kit.told("n6;w01,1;w15,1;p1,1,1,1;p1,1,1,1;");
        Boundary.to("nothing, some", x.known(0, 0), 0);
        Boundary.to("nothing, all", x.known(0, 1), 0);
        x.see(0);
        Boundary.to("one PART, some", x.known(0, 0), 1);
        Boundary.to("one PART, all", x.known(0, 1), 1);
        x.split(0, 6);
        x.go(2, 5);
        x.see(2);
        Boundary.past("the last PLACE by one, some", x.known(0, 0), 33);
        Boundary.past("the last PLACE by one, all", x.known(0, 1), 1);
        x.go(0, 5);
        x.see(0);
        Boundary.past("by both, all", x.known(0, 1), 33);
        x.go(1, 1);
        x.see(1);
        Boundary.to("the other PERSON does not count, some", x.known(0, 0), 33);
        Boundary.to("the other PERSON does not count, all", x.known(0, 1), 33);
        Boundary.to("of the other, some", x.known(1, 0), 2);
        Boundary.to("of the other, all", x.known(1, 1), 2);
        x.go(0, 1);
        x.see(0);
        Boundary.past("by one, some", x.known(0, 0), 35);
        x.lose(0);
        Boundary.past("that one LOST, some", x.known(0, 0), 33);
    }

    private static void knownRefused() {
        Boundary.sentence(28, "KNOWN: SEEN by some (what 0), by all (1). -1; -2; -3 nothing is left of it.");
        HalfHere x = Boundary.after(BoundaryOfChances::spread);
        Boundary.to("known(0, 0)", x.known(0, 0), 0);
        Boundary.to("known(1, 1)", x.known(1, 1), 0);
        for (int none : new int[] {2, -1, 6, LEAST, MOST}) {
            Boundary.refused("known(" + none + ", 0)", BoundaryOfChances::spread, y -> y.known(none, 0), -1);
        }
        for (int none : new int[] {2, -1, LEAST, MOST}) {
            Boundary.refused("known(0, " + none + ")", BoundaryOfChances::spread, y -> y.known(0, none), -2);
        }
        Boundary.refused("nothing is left, some", BoundaryOfChances::lost, y -> y.known(1, 0), -3);
        Boundary.refused("nothing is left, all", BoundaryOfChances::lost, y -> y.known(1, 1), -3);
        Boundary.refused("nothing is left, another what", BoundaryOfChances::lost, y -> y.known(1, 2), -2);
        Boundary.refused("nobody, another what", BoundaryOfChances::lost, y -> y.known(2, 2), -1);
    }

    private static void eleven(HalfHere x) {
        Kit.tell(x, "p1,1,1,1;");
        x.image();
        for (int i = 0; i < 11; i++) {
            x.row(1);
        }
    }

    private static void twelve(HalfHere x) {
        eleven(x);
        x.row(1);
    }

    private static void rowNumbers() {
        Boundary.sentence(29, "A ROW of TWELFTHS (0 .. 99; 12 at most) for one PERSON:");
        HalfHere x = new HalfHere();
        Boundary.to("row(0)", x.row(0), 1);
        Boundary.to("row(99)", x.row(99), 2);
        Boundary.to("the twelfth", Boundary.after(BoundaryOfChances::eleven).row(1), 12);
        Boundary.refused("the thirteenth", BoundaryOfChances::twelve, y -> y.row(1), -6);
        Boundary.refused("row(-1)", BoundaryOfChances::eleven, y -> y.row(-1), -4);
        Boundary.refused("row(100)", BoundaryOfChances::eleven, y -> y.row(100), -6);
        HalfHere again = Boundary.after(BoundaryOfChances::twelve);
        Boundary.to("judge(0)", again.judge(0), -9);
        Boundary.to("the first again", again.row(99), 1);
    }

    private static void row() {
        Boundary.sentence(29, "TWELFTHS more of the ROW: how many. -4; -6 (99; 12, too).");
        HalfHere x = Boundary.after(Boundary::busy);
        Boundary.to("row(0)", x.row(0), 3);
        Boundary.to("row(99)", x.row(99), 4);
        Boundary.to("count(5)", x.count(5), 4);
        for (int below : new int[] {-1, LEAST}) {
            Boundary.refused("row(" + below + ")", Boundary::busy, y -> y.row(below), -4);
        }
        for (int above : new int[] {100, MOST}) {
            Boundary.refused("row(" + above + ")", Boundary::busy, y -> y.row(above), -6);
        }
        Boundary.refused("row(0), the thirteenth", BoundaryOfChances::twelve, y -> y.row(0), -6);
    }

    private static void rowOrder() {
        Boundary.sentence(29, "the first that fits in the order in which it tells them");
        Boundary.to("row(0), the thirteenth", Boundary.after(BoundaryOfChances::twelve).row(0), -6);
        Boundary.refused("row(-1), the thirteenth", BoundaryOfChances::twelve, y -> y.row(-1), -4);
        Boundary.refused("row(100), the thirteenth", BoundaryOfChances::twelve, y -> y.row(100), -6);
    }

    private static int judged(int least, int... row) {
        HalfHere x = Kit.told("p1,1,1,1;p1,1,1," + least + ";");
        for (int v : row) {
            x.row(v);
        }
        return x.judge(1);
    }

    private static void judgedFirst() {
        Boundary.sentence(30, "JUDGED: the first that is below LEAST or with which the sum is above 12;");
        Boundary.to("LEAST", judged(4, 4), 1);
        Boundary.past("below LEAST", judged(4, 3), 0);
        Boundary.past("the second below LEAST", judged(4, 4, 3), 1);
        Boundary.to("LEAST 12", judged(12, 12), -9);
        Boundary.past("11 of LEAST 12", judged(12, 11), 0);
        Boundary.past("0 of LEAST 1", judged(1, 0), 0);
        Boundary.to("the sum is 12", judged(4, 4, 8), -9);
        Boundary.past("the sum is 13", judged(4, 4, 9), 1);
        Boundary.past("13 at once", judged(4, 13), 0);
        Boundary.past("99 at once", judged(1, 99), 0);
        Boundary.past("one more behind 12", judged(1, 12, 1), 1);
        Boundary.past("0 behind 12", judged(1, 12, 0), 1);
        Boundary.past("the first of two", judged(4, 4, 3, 99), 1);
        Boundary.past("the twelfth is above", judged(1, 1, 1, 1, 1, 1, 1, 1, 1, 1, 1, 1, 2), 11);
        Boundary.past("the twelfth is below", judged(1, 1, 1, 1, 1, 1, 1, 1, 1, 1, 1, 1, 0), 11);
    }

    private static void judgedEnd() {
        Boundary.sentence(30, "where it ends, if the sum is below 12; -9.");
        Boundary.to("the sum is 12", judged(1, 6, 6), -9);
        Boundary.past("the sum is 11", judged(1, 6, 5), 2);
        Boundary.past("the sum is 1", judged(1, 1), 1);
        Boundary.past("none", judged(1), 0);
        Boundary.past("none, LEAST 12", judged(12), 0);
        Boundary.to("twelve of 1", judged(1, 1, 1, 1, 1, 1, 1, 1, 1, 1, 1, 1, 1), -9);
        Boundary.past("eleven of 1", judged(1, 1, 1, 1, 1, 1, 1, 1, 1, 1, 1, 1), 11);
    }

    private static void judge() {
        Boundary.sentence(30, "JUDGED; -9 (whichever it answers, the ROW has none then). -1 (it stays).");
        HalfHere x = Boundary.after(Boundary::busy);
        Boundary.to("judge(0): it ends at 2", x.judge(0), 2);
        Boundary.to("none then", x.count(5), 0);
        Boundary.past("judge(0) again", x.judge(0), 0);
        Boundary.past("the next is the first", x.row(3), 1);
        Boundary.to("judge(1): it is below LEAST", x.judge(1), 0);
        Boundary.to("none then, too", x.count(5), 0);
        x.row(12);
        Boundary.to("judge(1): -9", x.judge(1), -9);
        Boundary.to("none then, by -9, too", x.count(5), 0);
        Boundary.to("-9 is not counted", x.count(11), 0);
        for (int none : new int[] {2, -1, 6, LEAST, MOST}) {
            Boundary.refused("judge(" + none + ")", Boundary::busy, y -> y.judge(none), -1);
        }
        HalfHere stays = Boundary.after(Boundary::busy);
        stays.judge(2);
        Boundary.past("it stays", stays.count(5), 2);
        Boundary.past("judge(0) of what stays", stays.judge(0), 2);
        stays.lose(1);
        stays.row(4);
        Boundary.to("one who is all LOST", stays.judge(1), 1);
    }

    private static void imageParts() {
        Boundary.sentence(31, "THE IMAGE is taken: how many PARTS.");
        HalfHere x = new HalfHere();
        Boundary.to("none", x.image(), 0);
        Kit.tell(x, "p1,1,1,1;p1,1,1,1;");
        Boundary.past("two", x.image(), 2);
        for (int i = 0; i < 11; i++) {
            x.split(0, 1);
            x.split(1, 1);
        }
        Boundary.to("24", x.image(), 24);
        for (int part = 0; part < 24; part++) {
            x.lose(part);
        }
        Boundary.past("on(), 24", x.on(), 24);
        Boundary.to("count(3)", x.count(3), 24);
    }

    private static void imageNotTheRow() {
        Boundary.sentence(32, "THE IMAGE: all that is told, PARTS (not the ROW, letters, REFUSALS);");
        HalfHere x = Boundary.after(Boundary::busy);
        x.image();
        x.row(3);
        x.feed('n');
        x.see(9);
        x.see(1);
        Kit.due("on()", x.on(), 3);
        Boundary.to("PARTS: not SEEN", x.partOf(1, 6), 0);
        Boundary.past("the ROW goes on", x.count(5), 3);
        Boundary.past("letters go on", x.count(6), 4);
        Boundary.past("REFUSALS go on", x.count(11), 1);
        x = Boundary.after(Boundary::busy);
        x.judge(0);
        x.image();
        x.row(12);
        x.on();
        Boundary.past("the ROW as it is", x.judge(0), -9);
        x.on();
        Boundary.past("and none is taken back", x.count(5), 0);
        Boundary.past("letters of before", x.village(), 1);
        Boundary.past("what these tell", x.count(0), 5);
        x.on();
        Boundary.to("all that is told is as then", x.count(0), 4);
        Boundary.past("no letters come back", x.count(6), 0);
    }

    private static void onAsThen() {
        Boundary.sentence(32, "ON from it all is as then.");
        HalfHere x = Boundary.after(Boundary::busy);
        Boundary.to("on(), back over one rest", x.on(), 3);
        Boundary.to("CLOCK as then", x.partOf(0, 4), 30);
        Boundary.to("TIRED as then", x.partOf(0, 5), 40);
        Boundary.to("at a WORK as then", x.partOf(0, 3), 0);
        x.lose(1);
        x.go(2, 2);
        x.at(2, 2);
        x.toil(2, 9);
        x.see(2);
        x.go(0, 1);
        x.village();
        Kit.tell(x, "w34,9;w02,1;p1,1,1,1;kp00,0,0,1;");
        Boundary.past("not as then: PERSONS", x.count(1), 3);
        Boundary.past("not as then: minutes(0, 2)", x.minutes(0, 2), 1);
        Boundary.to("on() again", x.on(), 3);
        Boundary.to("PLACES", x.count(0), 4);
        Boundary.to("minutes(0, 2)", x.minutes(0, 2), 17);
        Boundary.to("minutes(0, 3)", x.minutes(0, 3), -9);
        Boundary.to("PERSONS", x.count(1), 2);
        Boundary.to("WORKS", x.count(2), 3);
        int[][] due = {{0, 9, 0, 0, 30, 40, 0}, {1, 12, 0, -9, 0, 0, 0}, {0, 3, 1, -9, 10, 0, 2}};
        for (int part = 0; part < 3; part++) {
            for (int what = 0; what <= 6; what++) {
                Boundary.to("partOf(" + part + ", " + what + ")", x.partOf(part, what), due[part][what]);
            }
        }
        x.image();
        x.lose(0);
        Boundary.past("the later IMAGE has taken the place", x.on(), 3);
        Boundary.past("a PERSON may come again", Kit.tell(x, "p1,1,1,1;"), 1);
        Boundary.to("with the number that was free then", x.partOf(3, 0), 2);
    }

    private static void on() {
        Boundary.sentence(32, "ON from it: how many PARTS. -3 there is none.");
        HalfHere x = new HalfHere();
        Boundary.refused("on(), a new object", y -> { }, HalfHere::on, -3);
        x.image();
        Boundary.to("on(), the IMAGE of nobody", x.on(), 0);
        Boundary.refused("on(), none taken", y -> {
            Kit.tell(y, "w01,10;p12,6,3,3;kp010,2,0,7;");
            y.split(0, 5);
            y.row(5);
            Boundary.feedAll(y, "n5;");
        }, HalfHere::on, -3);
    }

    private static void countMost() {
        Boundary.sentence(33, "0 PLACES, 1 PERSONS, 2 WORKS, 3 PARTS, 4 WORKS that are DONE, 5 in the ROW, 6 letters on THE TAPE,");
        HalfHere x = Kit.told("n6;p1,1,1,1;p1,1,1,1;p1,1,1,1;", "p1,1,1,1;p1,1,1,1;p1,1,1,1;");
        Kit.tell(x, "kp00,0,0,1;kw00,0,0,1;kl00,0,0,1;");
        Kit.tell(x, "kt00,0,0,1;ks00,0,0,1;kh00,0,0,1;");
        for (int i = 0; i < 18; i++) {
            x.split(i % 6, 1);
        }
        for (int i = 0; i < 12; i++) {
            x.row(0);
        }
        for (int i = 0; i < 64; i++) {
            x.feed(0);
        }
        int[] most = {6, 6, 6, 24, 6, 12, 64};
        for (int what = 0; what <= 6; what++) {
            Boundary.to("count(" + what + "), the most", x.count(what), most[what]);
        }
        x.split(0, 1);
        x.row(0);
        x.feed(0);
        for (int what = 0; what <= 6; what++) {
            Boundary.past("count(" + what + "), one more refused", x.count(what), most[what]);
        }
        Boundary.past("count(16)", x.count(16), 3);
    }

    private static void countOther() {
        Boundary.sentence(33, "11 .. 16 REFUSALS -1 .. -6. -9 for another what.");
        HalfHere x = Boundary.after(Boundary::busy);
        int[] due = {4, 2, 3, 3, 0, 2, 3};
        for (int what = 0; what <= 6; what++) {
            Boundary.to("count(" + what + ")", x.count(what), due[what]);
        }
        for (int none : new int[] {-1, 7, 10, 17, 8, 9, -9, -11, LEAST, MOST}) {
            Boundary.past("count(" + none + ")", x.count(none), -9);
        }
        for (int what = 11; what <= 16; what++) {
            Boundary.to("-9 is not counted, count(" + what + ")", x.count(what), 0);
        }
    }

    private static void countRefusals() {
        Boundary.sentence(33, "nothing changes but how many there were): -1 NOBODY: no such PLACE, PERSON, PART, WORK. -2 OTHER: what, KIND. "
            + "-3 STATE: it is not as it must be. -4 BELOW: a number below the least. -6 ROOM: a number above the greatest, no room.");
        HalfHere x = Boundary.after(Boundary::busy);
        int[] due = {0, 0, 0, 0, 0, 0};
        int[] answers = {x.see(9), x.person(9, 0), x.work(9, 0), x.minutes(9, 0), x.person(0, 9), x.plan(9), x.split(0, 12), x.row(-1), x.row(100),
            x.best()};
        for (int answer : answers) {
            if (answer < 0 && answer >= -6) {
                due[-answer - 1]++;
            }
        }
        int[] told = {4, 2, 1, 1, 0, 1};
        for (int what = 11; what <= 16; what++) {
            Boundary.to("answers " + (10 - what), due[what - 11], told[what - 11]);
            Boundary.to("count(" + what + ")", x.count(what), told[what - 11]);
        }
        Boundary.past("one more", x.see(9), -1);
        Boundary.past("count(11), one more", x.count(11), 5);
        Boundary.past("count(12), as before", x.count(12), 2);
    }

    private static void longs() {
        Boundary.sentence(26, "Of longs REFUSALS are 4000000000000000000 less them (-1 as 4000000000000000001).");
        HalfHere x = Boundary.after(BoundaryOfChances::lost);
        Boundary.to("-1", x.chance(2, 0, 0, 0), 4000000000000000001L);
        Boundary.to("-2", x.chance(0, 0, 2, 0), 4000000000000000002L);
        Boundary.to("-3", x.chance(1, 0, 0, 0), 4000000000000000003L);
        Boundary.to("-4", x.chance(0, -1, 0, 0), 4000000000000000004L);
        Boundary.to("-6", x.chance(0, 101, 0, 0), 4000000000000000006L);
        int[] due = {1, 1, 1, 1, 0, 1};
        for (int what = 11; what <= 16; what++) {
            Boundary.past("counted like others, count(" + what + ")", x.count(what), due[what - 11]);
        }
    }
}
