/** Boundaries of PARTS: how many and which, what they do, promises 7 to 15. */
final class BoundaryOfParts {
    private static final int LEAST = Integer.MIN_VALUE;
    private static final int MOST = Integer.MAX_VALUE;
    /** No PART after Boundary.busy, which has 0, 1, 2. */
    private static final int[] NO_PARTS = {3, -1, 23, 24, LEAST, MOST};

    private BoundaryOfParts() {
    }

    static void all() {
        allOfOneAreTwelve();
        noFewerThanLeast();
        atFirst();
        leastFreeNumber();
        partOf();
        allElse();
        split();
        splitOrder();
        goNowhere();
        go();
        see();
        seeSixPlaces();
        joinMore();
        join();
        at();
        atNone();
        toilCut();
        toil();
        toilOrder();
        restNotBelow();
        rest();
        lose();
        loseNotBack();
    }

    private static void threePersons(HalfHere x) {
        Kit.tell(x, "p1,1,1,1;p1,1,1,1;p1,1,1,1;kp00,0,0,1;");
    }

    /** 24 PARTS: 0 has one TWELFTH, 1 has two, 2 has twelve, all others one. */
    private static void full(HalfHere x) {
        threePersons(x);
        for (int i = 0; i < 10; i++) {
            x.split(0, 1);
            x.split(1, 1);
        }
        x.split(0, 1);
        Boundary.bustle(x);
    }

    private static void allOfOneAreTwelve() {
        Boundary.sentence(4, "(all of one's are 12, less what is LOST)");
        HalfHere x = Kit.told("p1,1,1,1;");
        Boundary.to("person(0, 4), whole", x.person(0, 4), 12);
        for (int i = 0; i < 11; i++) {
            x.split(0, 1);
        }
        Boundary.to("person(0, 4), in twelve PARTS", x.person(0, 4), 12);
        Boundary.to("person(0, 5), in twelve PARTS", x.person(0, 5), 12);
        x.join(3, 4);
        Boundary.to("person(0, 4), two joined", x.person(0, 4), 12);
        x.lose(3);
        Boundary.past("person(0, 4), two LOST", x.person(0, 4), 10);
        for (int part = 0; part < 12; part++) {
            x.lose(part);
        }
        Boundary.past("person(0, 4), all LOST", x.person(0, 4), 0);
        Boundary.past("person(0, 5), all LOST", x.person(0, 5), 0);
    }

    private static void least(HalfHere x, int least) {
        Kit.tell(x, "p1,1,1," + least + ";");
        Boundary.bustle(x);
    }

    private static void noFewerThanLeast() {
        Boundary.sentence(8, "no fewer than its LEAST;");
        for (int i = 1; i <= 6; i++) {
            int least = i;
            Boundary.to("LEAST " + least, Boundary.after(x -> least(x, least)).split(0, least), 1);
            Boundary.to("LEAST left, " + least, Boundary.after(x -> least(x, least)).split(0, 12 - least), 1);
            Boundary.refused("below LEAST " + least, x -> least(x, least), x -> x.split(0, least - 1), -3);
            Boundary.refused("left below LEAST " + least, x -> least(x, least), x -> x.split(0, 13 - least), -3);
        }
        Boundary.refused("LEAST 7", x -> least(x, 7), x -> x.split(0, 7), -3);
        Boundary.refused("LEAST 7, left", x -> least(x, 7), x -> x.split(0, 5), -3);
        Boundary.refused("LEAST 12", x -> least(x, 12), x -> x.split(0, 12), -3);
    }

    private static void atFirst() {
        Boundary.sentence(7, "it is at a PLACE, at a WORK there or at none, has a CLOCK (minutes; 0 at first), TIRED (0), SEEN (PLACES, bits).");
        HalfHere x = Kit.told("p1,1,1,1;kp00,0,0,1;");
        int[] due = {0, 12, 0, -9, 0, 0, 0};
        for (int what = 0; what <= 6; what++) {
            Boundary.to("partOf(0, " + what + ")", x.partOf(0, what), due[what]);
        }
        x.at(0, 0);
        x.toil(0, 1);
        x.see(0);
        int[] then = {0, 12, 0, 0, 1, 1, 1};
        for (int what = 0; what <= 6; what++) {
            Boundary.past("then partOf(0, " + what + ")", x.partOf(0, what), then[what]);
        }
        Kit.tell(x, "w02,5;kp20,0,0,1;");
        x.go(0, 2);
        x.at(0, 1);
        x.toil(0, 9);
        x.lose(0);
        Kit.tell(x, "p1,1,1,1;");
        int[] anew = {1, 12, 0, -9, 0, 0, 0};
        for (int what = 0; what <= 6; what++) {
            Boundary.to("partOf(0, " + what + "), the number anew", x.partOf(0, what), anew[what]);
        }
    }

    private static void leastFreeNumber() {
        Boundary.sentence(8, "Each new PART (a PERSON's whole, too) takes the least free number of 0 .. 23.");
        HalfHere x = Kit.told("p1,1,1,1;");
        Boundary.to("the first PERSON's whole is 0", x.partOf(0, 0), 0);
        Boundary.to("the next", x.split(0, 1), 1);
        x = new HalfHere();
        threePersons(x);
        for (int i = 3; i <= 23; i++) {
            Boundary.to("the number " + i, x.split(i % 2, 1), i);
        }
        Boundary.past("24 are there", x.split(2, 1), -6);
        x.lose(20);
        x.lose(0);
        x.lose(9);
        Boundary.past("the least that is free is 0", x.split(2, 1), 0);
        Kit.tell(x, "p1,1,1,1;");
        Boundary.past("then 9, a PERSON's whole", x.partOf(9, 0), 3);
        Boundary.past("then 20", x.split(2, 1), 20);
        Boundary.past("then none", x.split(2, 1), -6);
        x.join(2, 0);
        Boundary.past("the number of a PART that was joined", x.split(9, 1), 0);
    }

    private static void partOf() {
        Boundary.sentence(7, "Of a PART: 0 PERSON, 1 TWELFTHS, 2 PLACE, 3 WORK (-9 none), 4 CLOCK, 5 TIRED, 6 SEEN. -1; -2.");
        HalfHere x = Boundary.after(Boundary::busy);
        int[][] due = {{0, 9, 0, 0, 31, 38, 0}, {1, 12, 0, -9, 0, 0, 0}, {0, 3, 1, -9, 10, 0, 2}};
        for (int part = 0; part < 3; part++) {
            for (int what = 0; what <= 6; what++) {
                Boundary.to("partOf(" + part + ", " + what + ")", x.partOf(part, what), due[part][what]);
            }
        }
        HalfHere full = Boundary.after(BoundaryOfParts::full);
        Boundary.to("partOf(23, 0)", full.partOf(23, 0), 0);
        Boundary.refused("partOf(24, 0), 24 are there", BoundaryOfParts::full, y -> y.partOf(24, 0), -1);
        for (int none : NO_PARTS) {
            Boundary.refused("partOf(" + none + ", 0)", Boundary::busy, y -> y.partOf(none, 0), -1);
        }
        for (int none : new int[] {7, -1, LEAST, MOST}) {
            Boundary.refused("partOf(2, " + none + ")", Boundary::busy, y -> y.partOf(2, none), -2);
        }
        Boundary.refused("partOf(3, 7)", Boundary::busy, y -> y.partOf(3, 7), -1);
    }

    private static void allElse() {
        Boundary.sentence(8, "PART a PART: a new one of so many TWELFTHS, with all else as it has (at no WORK).");
        HalfHere x = Boundary.after(Boundary::busy);
        x.see(0);
        Boundary.to("split(0, 3)", x.split(0, 3), 3);
        int[] due = {0, 3, 0, -9, 31, 38, 1};
        int[] left = {0, 6, 0, 0, 31, 38, 1};
        for (int what = 0; what <= 6; what++) {
            Boundary.to("partOf(3, " + what + ")", x.partOf(3, what), due[what]);
            Boundary.past("partOf(0, " + what + "), what is left", x.partOf(0, what), left[what]);
        }
        x.go(3, 2);
        x.see(3);
        x.at(3, 2);
        Boundary.to("the least free number of a PART elsewhere", x.split(1, 4), 4);
        x.go(1, 2);
        x.at(1, 2);
        Boundary.to("split(1, 4), elsewhere", x.split(1, 4), 5);
        int[] there = {1, 4, 2, -9, 17, 0, 0};
        int[] stays = {1, 4, 2, 2, 17, 0, 0};
        for (int what = 0; what <= 6; what++) {
            Boundary.to("partOf(5, " + what + "), elsewhere", x.partOf(5, what), there[what]);
            Boundary.past("partOf(1, " + what + "), what is left elsewhere", x.partOf(1, what), stays[what]);
        }
    }

    private static void split() {
        Boundary.sentence(8, "PART: the number of the new one. -1; -3 it, or what is left, would be below LEAST; -6 24 are there.");
        HalfHere x = Boundary.after(Boundary::busy);
        Boundary.to("split(0, 6), three left", x.split(0, 6), 3);
        x = Boundary.after(Boundary::busy);
        Boundary.to("split(0, 3), six left", x.split(0, 3), 3);
        for (int some : new int[] {2, 7, 0, -1, 9, 12, LEAST, MOST}) {
            Boundary.refused("split(0, " + some + ")", Boundary::busy, y -> y.split(0, some), -3);
        }
        Boundary.refused("split(2, 3), all of it", Boundary::busy, y -> y.split(2, 3), -3);
        for (int none : NO_PARTS) {
            Boundary.refused("split(" + none + ", 3)", Boundary::busy, y -> y.split(none, 3), -1);
        }
        HalfHere last = Boundary.after(y -> {
            full(y);
            y.lose(23);
        });
        Boundary.to("split(2, 6), 23 are there", last.split(2, 6), 23);
        Boundary.refused("split(2, 6), 24 are there", BoundaryOfParts::full, y -> y.split(2, 6), -6);
    }

    private static void splitOrder() {
        Boundary.sentence(8, "the first that fits in the order in which it tells them");
        Boundary.to("24 are there alone", Boundary.after(BoundaryOfParts::full).split(1, 1), -6);
        Boundary.refused("below LEAST, 24 are there", BoundaryOfParts::full, x -> x.split(1, 0), -3);
        Boundary.refused("left below LEAST, 24 are there", BoundaryOfParts::full, x -> x.split(0, 1), -3);
        Boundary.refused("nobody, below LEAST, 24 are there", BoundaryOfParts::full, x -> x.split(24, 0), -1);
        Boundary.refused("nobody, below LEAST", Boundary::busy, x -> x.split(3, 0), -1);
    }

    private static void goNowhere() {
        Boundary.sentence(9, "GO: by the shortest WAYS (MINUTES to each PLACE); CLOCK that much later; at no WORK then.");
        HalfHere x = Boundary.after(Boundary::busy);
        Boundary.to("go(0, 0), where it is", x.go(0, 0), 31);
        Boundary.to("at no WORK by that", x.partOf(0, 3), -9);
        Boundary.past("go(0, 1)", x.go(0, 1), 41);
        Boundary.past("go(0, 2)", x.go(0, 2), 48);
        Boundary.past("go(0, 0), over two", x.go(0, 0), 65);
        Boundary.past("TIRED stays", x.partOf(0, 5), 38);
        Boundary.past("not SEEN by it", x.partOf(0, 6), 0);
        x = Kit.told("w01,30;w12,30;w02,60;p1,1,1,1;");
        Boundary.to("go(0, 2), as much either way", x.go(0, 2), 60);
        Kit.tell(x, "w02,59;");
        Boundary.past("go(0, 0), one less", x.go(0, 0), 119);
        Kit.tell(x, "w02,60;w01,29;");
        Boundary.past("go(0, 2), one less by two", x.go(0, 2), 178);
    }

    private static void go() {
        Boundary.sentence(9, "GO: CLOCK then. -1 either; -3 it can not be come to.");
        HalfHere x = Boundary.after(Boundary::busy);
        Boundary.to("go(2, 2), the last to which there is a way", x.go(2, 2), 17);
        Boundary.refused("go(2, 3), no way", Boundary::busy, y -> y.go(2, 3), -3);
        Boundary.refused("go(0, 3), no way, from a WORK", Boundary::busy, y -> y.go(0, 3), -3);
        for (int none : new int[] {4, -1, 6, LEAST, MOST}) {
            Boundary.refused("go(0, " + none + ")", Boundary::busy, y -> y.go(0, none), -1);
        }
        for (int none : NO_PARTS) {
            Boundary.refused("go(" + none + ", 0)", Boundary::busy, y -> y.go(none, 0), -1);
        }
        Boundary.refused("go(3, 3), nobody, no way", Boundary::busy, y -> y.go(3, 3), -1);
    }

    private static void see() {
        Boundary.sentence(10, "SEE: how many PLACES it has SEEN. -1.");
        HalfHere x = Boundary.after(Boundary::busy);
        Boundary.to("see(1), the first", x.see(1), 1);
        Boundary.to("see(1), the same", x.see(1), 1);
        Boundary.to("see(2), the same", x.see(2), 1);
        for (int none : NO_PARTS) {
            Boundary.refused("see(" + none + ")", Boundary::busy, y -> y.see(none), -1);
        }
        Boundary.refused("see(24), 24 are there", BoundaryOfParts::full, y -> y.see(24), -1);
    }

    private static void seeSixPlaces() {
        Boundary.sentence(10, "SEE: the PLACE is SEEN.");
        HalfHere x = Kit.told("n6;w01,1;w12,1;w23,1;w34,1;w45,1;p1,1,1,1;");
        for (int place = 0; place <= 5; place++) {
            x.go(0, place);
            Boundary.to("see(0) at " + place, x.see(0), place + 1);
            Boundary.to("SEEN at " + place, x.partOf(0, 6), (2 << place) - 1);
        }
        x.go(0, 0);
        Boundary.past("see(0) at 0 again", x.see(0), 6);
        Boundary.past("SEEN", x.partOf(0, 6), 63);
        Boundary.past("no time by it", x.partOf(0, 4), 10);
    }

    private static void joinMore() {
        Boundary.sentence(11, "the first has the TWELFTHS of both, the later CLOCK and 1, the greater TIRED, what either has SEEN; at no WORK; "
            + "the other is no more.");
        HalfHere x = Kit.told("w01,10;p1,1,1,1;kp00,0,0,1;");
        x.split(0, 5);
        x.at(0, 0);
        x.at(1, 0);
        Boundary.to("join(0, 1), alike", x.join(0, 1), 12);
        int[] alike = {0, 12, 0, -9, 1, 0, 0};
        for (int what = 0; what <= 6; what++) {
            Boundary.to("partOf(0, " + what + "), alike", x.partOf(0, what), alike[what]);
        }
        Boundary.to("the other is no more", x.partOf(1, 0), -1);
        x.split(0, 6);
        x.at(0, 0);
        x.at(1, 0);
        x.toil(0, 1);
        x.see(0);
        Boundary.past("join(1, 0), the other later and more TIRED by one toil", x.join(1, 0), 12);
        int[] later = {0, 12, 0, -9, 3, 2, 1};
        for (int what = 0; what <= 6; what++) {
            Boundary.past("partOf(1, " + what + "), the other later", x.partOf(1, what), later[what]);
        }
        Boundary.past("the other is no more", x.partOf(0, 0), -1);
    }

    private static void join() {
        Boundary.sentence(11, "JOIN: its TWELFTHS. -1 (one twice, too); -3 of two PERSONS, at two PLACES.");
        HalfHere x = Boundary.after(Boundary::busy);
        x.go(2, 0);
        Boundary.to("join(0, 2), of one PERSON at one PLACE", x.join(0, 2), 12);
        Boundary.refused("join(0, 2), at two PLACES", Boundary::busy, y -> y.join(0, 2), -3);
        Boundary.refused("join(2, 0), at two PLACES", Boundary::busy, y -> y.join(2, 0), -3);
        Boundary.refused("join(0, 1), of two PERSONS", Boundary::busy, y -> y.join(0, 1), -3);
        Boundary.refused("join(1, 2), of two PERSONS at two PLACES", Boundary::busy, y -> y.join(1, 2), -3);
        for (int one = 0; one < 3; one++) {
            int twice = one;
            Boundary.refused("join(" + one + ", " + one + ")", Boundary::busy, y -> y.join(twice, twice), -1);
        }
        for (int none : NO_PARTS) {
            Boundary.refused("join(" + none + ", 0)", Boundary::busy, y -> y.join(none, 0), -1);
            Boundary.refused("join(0, " + none + ")", Boundary::busy, y -> y.join(0, none), -1);
        }
        Boundary.refused("join(3, 3)", Boundary::busy, y -> y.join(3, 3), -1);
    }

    private static void at() {
        Boundary.sentence(12, "-9 none. -1 either; -3 it is elsewhere.");
        HalfHere x = Boundary.after(Boundary::busy);
        Boundary.to("at(2, 1), a WORK where it is", x.at(2, 1), -9);
        Boundary.to("at(2, 1), again", x.at(2, 1), 1);
        x.go(2, 2);
        Boundary.to("at(2, 2), the last WORK", x.at(2, 2), -9);
        Boundary.refused("at(2, 0), elsewhere", Boundary::busy, y -> y.at(2, 0), -3);
        Boundary.refused("at(0, 1), elsewhere, from a WORK", Boundary::busy, y -> y.at(0, 1), -3);
        for (int none : new int[] {3, -2, -9, 6, LEAST, MOST}) {
            Boundary.refused("at(0, " + none + ")", Boundary::busy, y -> y.at(0, none), -1);
        }
        for (int none : NO_PARTS) {
            Boundary.refused("at(" + none + ", 0)", Boundary::busy, y -> y.at(none, 0), -1);
            Boundary.refused("at(" + none + ", -1)", Boundary::busy, y -> y.at(none, -1), -1);
        }
        Boundary.refused("at(3, 1), nobody, elsewhere", Boundary::busy, y -> y.at(3, 1), -1);
    }

    private static void atNone() {
        Boundary.sentence(12, "It is at a WORK (-1: none): the one that it was at;");
        HalfHere x = Boundary.after(Boundary::busy);
        Boundary.to("at(0, -1)", x.at(0, -1), 0);
        Boundary.to("at none", x.partOf(0, 3), -9);
        Boundary.to("at(0, -1), again", x.at(0, -1), -9);
        Boundary.refused("at(0, -2)", Boundary::busy, y -> y.at(0, -2), -1);
        Boundary.past("-9 is not counted", x.count(11), 0);
        Boundary.past("no time by it", x.partOf(0, 4), 31);
    }

    private static HalfHere toilers() {
        HalfHere x = Kit.told("p1,1,1,1;p1,1,1,1;kp00,0,0,1;");
        x.split(0, 5);
        x.split(1, 1);
        for (int part = 0; part < 4; part++) {
            x.at(part, 0);
        }
        return x;
    }

    private static void toilCut() {
        Boundary.sentence(13, "TOIL of m minutes (at a WORK): CLOCK m later, TIRED m times 12 by TWELFTHS (cut) more.");
        HalfHere x = toilers();
        Boundary.to("7 minutes of 7 TWELFTHS, nothing to cut", x.toil(0, 7), 12);
        Boundary.past("6 of 7: 10 and 2 by 7", x.toil(0, 6), 22);
        Boundary.past("6 of 7 once more, each cut", x.toil(0, 6), 32);
        Boundary.to("CLOCK", x.partOf(0, 4), 19);
        Boundary.to("5 of 5", x.toil(2, 5), 12);
        Boundary.past("4 of 5: 9 and 3 by 5", x.toil(2, 4), 21);
        Boundary.to("1 of 1", x.toil(3, 1), 12);
        Boundary.past("1 of 11: 1 and 1 by 11", x.toil(1, 1), 1);
        Boundary.past("10 of 11: 10 and 10 by 11", x.toil(1, 10), 11);
        HalfHere whole = Kit.told("p1,1,1,1;kp00,0,0,1;");
        whole.at(0, 0);
        Boundary.to("1 of 12", whole.toil(0, 1), 1);
        Boundary.to("at the WORK still", whole.partOf(0, 3), 0);
    }

    private static void toil() {
        Boundary.sentence(13, "TOIL: TIRED then. -1; -4 below 1; -6 600; -3 it is at no WORK.");
        Boundary.to("toil(0, 1)", Boundary.after(Boundary::busy).toil(0, 1), 39);
        Boundary.to("toil(0, 600)", Boundary.after(Boundary::busy).toil(0, 600), 838);
        for (int m : new int[] {0, -1, LEAST}) {
            Boundary.refused("toil(0, " + m + ")", Boundary::busy, y -> y.toil(0, m), -4);
        }
        for (int m : new int[] {601, MOST}) {
            Boundary.refused("toil(0, " + m + ")", Boundary::busy, y -> y.toil(0, m), -6);
        }
        Boundary.refused("toil(1, 1), at no WORK", Boundary::busy, y -> y.toil(1, 1), -3);
        Boundary.refused("toil(2, 600), at no WORK", Boundary::busy, y -> y.toil(2, 600), -3);
        for (int none : NO_PARTS) {
            Boundary.refused("toil(" + none + ", 1)", Boundary::busy, y -> y.toil(none, 1), -1);
        }
    }

    private static void toilOrder() {
        Boundary.sentence(13, "the first that fits in the order in which it tells them");
        Boundary.to("toil(1, 1), at no WORK alone", Boundary.after(Boundary::busy).toil(1, 1), -3);
        Boundary.refused("toil(1, 0), below, at no WORK", Boundary::busy, y -> y.toil(1, 0), -4);
        Boundary.refused("toil(1, 601), above, at no WORK", Boundary::busy, y -> y.toil(1, 601), -6);
        Boundary.refused("toil(3, 0), nobody, below", Boundary::busy, y -> y.toil(3, 0), -1);
        Boundary.refused("toil(3, 601), nobody, above", Boundary::busy, y -> y.toil(3, 601), -1);
    }

    private static HalfHere tired(int minutes) {
        HalfHere x = Kit.told("p1,1,1,1;kp00,0,0,1;");
        x.at(0, 0);
        x.toil(0, minutes);
        return x;
    }

    private static void restNotBelow() {
        Boundary.sentence(14, "REST of m: CLOCK m later, TIRED 2 m less (0 at least).");
        Boundary.to("10 of TIRED 20", tired(20).rest(0, 10), 0);
        Boundary.to("10 of TIRED 21", tired(21).rest(0, 10), 1);
        Boundary.past("10 of TIRED 19", tired(19).rest(0, 10), 0);
        Boundary.past("1 of TIRED 1", tired(1).rest(0, 1), 0);
        Boundary.to("1 of TIRED 2", tired(2).rest(0, 1), 0);
        Boundary.to("1 of TIRED 3", tired(3).rest(0, 1), 1);
        Boundary.to("300 of TIRED 600", tired(600).rest(0, 300), 0);
        Boundary.past("600 of TIRED 600", tired(600).rest(0, 600), 0);
        HalfHere x = Kit.told("p1,1,1,1;");
        Boundary.past("600 of TIRED 0", x.rest(0, 600), 0);
        Boundary.past("CLOCK", x.partOf(0, 4), 600);
        HalfHere working = tired(20);
        working.rest(0, 3);
        Boundary.to("at the WORK still", working.partOf(0, 3), 0);
    }

    private static void rest() {
        Boundary.sentence(14, "REST: TIRED then. -1; -4 below 1; -6 600.");
        Boundary.to("rest(0, 1)", Boundary.after(Boundary::busy).rest(0, 1), 36);
        Boundary.to("rest(0, 600)", Boundary.after(Boundary::busy).rest(0, 600), 0);
        Boundary.to("rest(2, 1), at no WORK", Boundary.after(Boundary::busy).rest(2, 1), 0);
        for (int m : new int[] {0, -1, LEAST}) {
            Boundary.refused("rest(0, " + m + ")", Boundary::busy, y -> y.rest(0, m), -4);
        }
        for (int m : new int[] {601, MOST}) {
            Boundary.refused("rest(0, " + m + ")", Boundary::busy, y -> y.rest(0, m), -6);
        }
        for (int none : NO_PARTS) {
            Boundary.refused("rest(" + none + ", 1)", Boundary::busy, y -> y.rest(none, 1), -1);
        }
        Boundary.refused("rest(3, 0), nobody, below", Boundary::busy, y -> y.rest(3, 0), -1);
        Boundary.refused("rest(3, 601), nobody, above", Boundary::busy, y -> y.rest(3, 601), -1);
    }

    private static void lose() {
        Boundary.sentence(15, "LOSE: how many TWELFTHS. -1.");
        HalfHere x = Boundary.after(Boundary::busy);
        Boundary.to("lose(2)", x.lose(2), 3);
        Boundary.past("lose(2), lost already", x.lose(2), -1);
        Boundary.to("lose(0)", x.lose(0), 9);
        Boundary.to("lose(1), the last", x.lose(1), 12);
        Boundary.to("count(3)", x.count(3), 0);
        for (int none : NO_PARTS) {
            Boundary.refused("lose(" + none + ")", Boundary::busy, y -> y.lose(none), -1);
        }
        Boundary.refused("lose(24), 24 are there", BoundaryOfParts::full, y -> y.lose(24), -1);
    }

    private static void loseNotBack() {
        Boundary.sentence(15, "LOSE a PART: it is no more, its TWELFTHS do not come back.");
        HalfHere x = Kit.told("p5,0,0,1;kp00,0,0,1;");
        x.split(0, 5);
        x.at(0, 0);
        x.at(1, 0);
        Boundary.to("does(0, 0) ahead of it", x.does(0, 0), 60);
        x.lose(1);
        Boundary.past("does(0, 0)", x.does(0, 0), 35);
        Boundary.past("split(0, 6), the number again", x.split(0, 6), 1);
        Boundary.past("join(0, 1)", x.join(0, 1), 7);
        Boundary.past("split(0, 7), none would be left", x.split(0, 7), -3);
        x.lose(0);
        Boundary.past("person(0, 4)", x.person(0, 4), 0);
        Boundary.past("a PERSON still", x.count(1), 1);
        Boundary.past("split(0, 1)", x.split(0, 1), -1);
    }
}
