/** Boundaries of PLANS, BEST, MUST, WITH, THIN, FEW, promises 18 to 25. */
final class BoundaryOfPlans {
    private static final int LEAST = Integer.MIN_VALUE;
    private static final int MOST = Integer.MAX_VALUE;
    private static final int WHOLES = 0;
    private static final int EVEN = 1;
    private static final int NEED = 2;
    private static final int SPARE = 3;
    private static final int[] NO_KINDS = {4, -1, LEAST, MOST};

    private BoundaryOfPlans() {
    }

    static void all() {
        inMind();
        wholesDone();
        wholesHelps();
        evenCut();
        needLeast();
        needFree();
        needWithout();
        needTillDone();
        spare();
        worthOfDone();
        plan();
        planned();
        plannedOrder();
        threeAndThree();
        quartersBelowLeast();
        quartersOnePart();
        quartersFirst();
        quartersGreatest();
        best();
        quarters();
        quartersOrder();
        must();
        mustWholes();
        mustFewest();
        mustLeastBits();
        with();
        withFirst();
        withFewer();
        withOrder();
        thin();
        thinRefused();
        few();
        fewKinds();
        fewOrder();
    }

    /** The TWELFTHS of a plan, a row of works for each person, and what it is worth. */
    private static String rows(HalfHere x, int kind) {
        StringBuilder all = new StringBuilder();
        for (int person = 0; person < x.count(1); person++) {
            for (int work = 0; work < x.count(2); work++) {
                all.append(x.planned(kind, person, work)).append(work + 1 < x.count(2) ? " " : ";");
            }
        }
        return all.append(" ").append(x.plan(kind)).toString();
    }

    /** Compares rows; a mark of 1 where they are as due. */
    private static int isDue(HalfHere x, int kind, String due) {
        String got = rows(x, kind);
        if (!got.equals(due)) {
            System.out.println("the plan is " + got + ", due is " + due);
        }
        return got.equals(due) ? 1 : 0;
    }

    private static void to(String when, HalfHere x, int kind, String due) {
        Boundary.to(when, isDue(x, kind, due), 1);
    }

    private static void past(String when, HalfHere x, int kind, String due) {
        Boundary.past(when, isDue(x, kind, due), 1);
    }

    private static void inMind() {
        Boundary.sentence(18, "PLANS of KINDS, in mind, PERSONS whole, untired, PLACES left out (all parts may be at any WORK):");
        HalfHere x = Kit.told("n4;w01,10;p10,0,0,1;p10,0,0,1;", "kp010,0,0,1;kh310,0,0,2;");
        to("0 whole, both at PLACE 0", x, WHOLES, "12 0;0 12; 3");
        x.at(0, 0);
        x.toil(0, 241);
        x.split(1, 6);
        x.go(1, 1);
        x.lose(2);
        past("one too TIRED, one LOST half and elsewhere", x, WHOLES, "12 0;0 12; 3");
        past("even", x, EVEN, "6 6;6 6; 1");
        past("need", x, NEED, "12 0;0 12; 3");
        past("spare", x, SPARE, "11 0;1 10; 1");
        Boundary.past("partOf(0, 3), as it was", x.partOf(0, 3), 0);
        Boundary.past("partOf(1, 1), as it was", x.partOf(1, 1), 6);
    }

    private static void wholesDone() {
        Boundary.sentence(18, "0 WHOLES under PLAN: PERSONS by numbers, each at the first WORK that is not DONE yet");
        to("it needs nothing", Kit.told("p10,0,0,1;", "kp00,0,0,1;kp01,0,0,2;"), WHOLES, "0 12; 3");
        to("it is just DONE by the first", Kit.told("p10,0,0,1;p10,0,0,1;", "kp010,0,0,1;kp01,0,0,2;"), WHOLES, "12 0;0 12; 3");
        past("it is not DONE by one less", Kit.told("p10,0,0,1;p10,0,0,1;", "kp011,0,0,1;kp01,0,0,2;"), WHOLES, "12 0;12 0; 1");
        past("all are DONE", Kit.told("p10,0,0,1;p10,0,0,1;", "kp010,0,0,1;kp00,0,0,2;"), WHOLES, "12 0;0 0; 3");
    }

    private static void wholesHelps() {
        Boundary.sentence(18, "to which it HELPS (of something that it needs DOES becomes more);");
        to("1 of what it needs", Kit.told("p60,1,0,1;", "kp00,9,0,1;kp01,0,0,2;"), WHOLES, "12 0; 0");
        past("0 of what it needs", Kit.told("p60,0,0,1;", "kp00,9,0,1;kp01,0,0,2;"), WHOLES, "0 12; 2");
        past("it HELPS none", Kit.told("p0,0,60,1;", "kp00,9,0,1;kp01,0,0,2;"), WHOLES, "0 0; 0");
        to("of one of two that it needs", Kit.told("p0,1,0,1;", "kp09,9,0,1;kp00,1,0,2;"), WHOLES, "12 0; 0");
        to("more by being the second", Kit.told("p2,0,0,1;p0,0,0,1;", "kt03,0,0,1;"), WHOLES, "12;12; 1");
        past("no more by being the third", Kit.told("p2,0,0,1;p0,0,0,1;p0,0,0,1;", "kt04,0,0,1;"), WHOLES, "12;12;0; 0");
        to("1 of STRENGTH for a HARD one", Kit.told("p1,0,0,1;", "kh09,0,0,1;"), WHOLES, "12; 0");
        past("0 of STRENGTH for a HARD one", Kit.told("p0,0,0,1;", "kh09,0,0,1;"), WHOLES, "0; 0");
        past("half of nothing", Kit.told("p0,2,0,1;p0,0,0,1;", "kt03,0,0,1;"), WHOLES, "0;0; 0");
    }

    private static void evenCut() {
        Boundary.sentence(18, "1 EVEN under PLAN: each in as many PARTS as there are WORKS, alike (12 by that, cut; not below LEAST: then none), "
            + "one at each;");
        int[] each = {12, 6, 4, 3, 2, 2};
        for (int works = 1; works <= 6; works++) {
            HalfHere x = Kit.told("p1,0,0," + each[works - 1] + ";p1,0,0," + Math.min(12, each[works - 1] + 1) + ";");
            for (int i = 0; i < works; i++) {
                Kit.tell(x, "kp00,0,0,1;");
            }
            for (int work = 0; work < works; work++) {
                Boundary.to(works + " WORKS, LEAST " + each[works - 1], x.planned(EVEN, 0, work), each[works - 1]);
                Boundary.past(works + " WORKS, LEAST one more", x.planned(EVEN, 1, work), works == 1 ? 12 : 0);
            }
        }
        Boundary.to("no WORKS", Kit.told("p1,0,0,1;").plan(EVEN), 0);
        to("DONE by 6 of each", Kit.told("p10,0,0,1;p10,0,0,6;", "kp010,0,0,1;kp010,0,0,2;"), EVEN, "6 6;6 6; 3");
        past("6 of each are LARGE for none", Kit.told("p10,0,0,1;p10,0,0,6;", "kl01,0,0,1;kp011,0,0,2;"), EVEN, "6 6;6 6; 0");
    }

    private static void needLeast() {
        Boundary.sentence(18, "the least TWELFTHS, LEAST or more and no more than are free of it, by which it is DONE;");
        to("just DONE by 4", Kit.told("p3,0,0,1;", "kp01,0,0,1;"), NEED, "4; 1");
        past("7 of 3 are too few for 24", Kit.told("p3,0,0,1;", "kp02,0,0,1;"), NEED, "8; 1");
        past("5 by 5 of 24", Kit.told("p5,0,0,1;", "kp02,0,0,1;"), NEED, "5; 1");
        to("LEAST is as many", Kit.told("p3,0,0,4;", "kp01,0,0,1;"), NEED, "4; 1");
        past("LEAST is more", Kit.told("p3,0,0,5;", "kp01,0,0,1;"), NEED, "5; 1");
        to("LEAST 12", Kit.told("p60,0,0,12;", "kp01,0,0,1;"), NEED, "12; 1");
        to("HARD from 8, untired", Kit.told("p12,0,0,1;", "kh08,0,0,1;"), NEED, "8; 1");
        past("8 of 11 are too few", Kit.told("p11,0,0,1;", "kh08,0,0,1;"), NEED, "9; 1");
        to("LARGE from 8", Kit.told("p60,0,0,1;", "kl01,0,0,1;"), NEED, "8; 1");
        to("WHOLE from 12", Kit.told("p60,0,0,1;", "kw01,0,0,1;"), NEED, "12; 1");
    }

    private static void needFree() {
        Boundary.sentence(18, "no more than are free of it, by which it is DONE;");
        to("all 12", Kit.told("p10,0,0,1;", "kp010,0,0,1;"), NEED, "12; 1");
        past("12 are too few", Kit.told("p10,0,0,1;", "kp011,0,0,1;"), NEED, "12; 0");
        to("just the 4 that are free", Kit.told("p3,0,0,1;", "kp02,0,0,1;kp01,0,0,2;"), NEED, "8 4; 3");
        past("4 are free, 8 needed", Kit.told("p3,0,0,1;", "kp02,0,0,1;kp02,0,0,2;"), NEED, "8 4; 1");
        to("HARD, all 12", Kit.told("p10,0,0,1;", "kh010,0,0,1;"), NEED, "12; 1");
        past("HARD, 12 are too few", Kit.told("p10,0,0,1;", "kh011,0,0,1;"), NEED, "12; 0");
        past("none is free", Kit.told("p1,0,0,1;", "kp01,0,0,1;kp01,0,0,2;"), NEED, "12 0; 1");
    }

    private static void needWithout() {
        Boundary.sentence(18, "without such all that are free, if these are LEAST or more and it HELPS;");
        to("4 are free, LEAST 4", Kit.told("p3,0,0,4;", "kp02,0,0,1;kp02,0,0,2;"), NEED, "8 4; 1");
        past("4 are free, LEAST 5", Kit.told("p3,0,0,5;", "kp02,0,0,1;kp02,0,0,2;"), NEED, "8 0; 1");
        to("1 is free, LEAST 1", Kit.told("p12,0,0,1;", "kp011,0,0,9;kp02,0,0,2;"), NEED, "11 1; 9");
        to("it HELPS by 1", Kit.told("p3,1,0,1;", "kp02,0,0,1;kp00,9,0,2;"), NEED, "8 4; 1");
        past("it does not HELP", Kit.told("p3,0,0,1;", "kp02,0,0,1;kp00,9,0,2;"), NEED, "8 0; 1");
        past("7 are free for a LARGE one", Kit.told("p12,0,0,1;", "kp05,0,0,1;kl012,0,0,2;"), NEED, "5 0; 1");
        to("8 are free for a LARGE one", Kit.told("p12,0,0,1;", "kp04,0,0,1;kl012,0,0,2;"), NEED, "4 8; 1");
        past("11 are free for a WHOLE one", Kit.told("p12,0,0,1;", "kp01,0,0,1;kw01,0,0,2;"), NEED, "1 0; 1");
    }

    private static void needTillDone() {
        Boundary.sentence(18, "2 NEED under PLAN: WORKS by numbers; for each, till it is DONE, PERSONS by numbers:");
        to("just DONE by the first", Kit.told("p10,0,0,1;p10,0,0,1;", "kp010,0,0,1;"), NEED, "12;0; 1");
        past("not DONE by the first", Kit.told("p10,0,0,1;p10,0,0,1;", "kp011,0,0,1;"), NEED, "12;2; 1");
        to("DONE with nobody", Kit.told("p10,0,0,1;", "kp00,0,0,1;"), NEED, "0; 1");
        past("TWO: DONE by the second's LEAST", Kit.told("p10,0,0,1;p0,0,0,3;", "kt015,0,0,1;"), NEED, "12;3; 1");
        Boundary.to("no WORKS", Kit.told("p10,0,0,1;").plan(NEED), 0);
        Boundary.to("nobody", Kit.told("kp01,0,0,1;").plan(NEED), 0);
    }

    private static void spare() {
        Boundary.sentence(18, "3 SPARE under NEED: as NEED, but LEAST TWELFTHS of each are not free.");
        to("LEAST 6: 6 are free", Kit.told("p12,0,0,6;", "kp06,0,0,1;"), SPARE, "6; 1");
        past("LEAST 7: 5 are free, below LEAST", Kit.told("p12,0,0,7;", "kp01,0,0,1;"), SPARE, "0; 0");
        past("LEAST 12: none is free", Kit.told("p12,0,0,12;", "kp01,0,0,1;"), SPARE, "0; 0");
        to("LEAST 1: 11 are free", Kit.told("p12,0,0,1;", "kp011,0,0,1;"), SPARE, "11; 1");
        past("LEAST 1: 12 are not", Kit.told("p12,0,0,1;", "kp012,0,0,1;"), SPARE, "11; 0");
        past("NEED has 12", Kit.told("p12,0,0,1;", "kp012,0,0,1;"), NEED, "12; 1");
        to("LEAST 4: 4 and 4", Kit.told("p12,0,0,4;", "kp04,0,0,1;kp04,0,0,2;"), SPARE, "4 4; 3");
        past("LEAST 4: 4 are free", Kit.told("p12,0,0,4;", "kp04,0,0,1;kp05,0,0,2;"), SPARE, "4 4; 1");
        past("LEAST 4: 3 are free", Kit.told("p12,0,0,4;", "kp05,0,0,1;kp04,0,0,2;"), SPARE, "5 0; 1");
        past("a WHOLE one never", Kit.told("p12,0,0,1;", "kw01,0,0,1;"), SPARE, "0; 0");
    }

    private static void worthOfDone() {
        Boundary.sentence(18, "A PLAN's WORTH: of all WORKS that are DONE.");
        Boundary.to("none", new HalfHere().plan(WHOLES), 0);
        HalfHere x = Kit.told("p1,0,0,1;", "kp00,0,0,99;kp00,0,0,99;kp00,0,0,99;", "kp00,0,0,99;kp00,0,0,99;kp01,0,0,99;");
        Boundary.to("all six", x.plan(WHOLES), 594);
        Boundary.past("2 by 12 of one are too few", x.plan(EVEN), 495);
        Boundary.past("11 by 12 of one are too few", x.plan(SPARE), 495);
        Boundary.to("WORTH 0", Kit.told("kp00,0,0,0;").plan(NEED), 0);
    }

    private static void plan() {
        Boundary.sentence(18, "WORTH of a PLAN. -2.");
        HalfHere x = Boundary.after(Boundary::busy);
        HalfHere six = Kit.told("p1,0,0,1;p1,0,0,1;p1,0,0,1;", "p1,0,0,1;p1,0,0,1;p1,0,0,1;");
        Kit.tell(six, "kp01,0,0,1;kp01,0,0,2;kp01,0,0,4;");
        Kit.tell(six, "kp01,0,0,8;kp01,0,0,16;kp02,0,0,32;");
        int[] worth = {31, 31, 31, 31};
        for (int kind = WHOLES; kind <= SPARE; kind++) {
            Boundary.to("plan(" + kind + "), six PERSONS, six WORKS", six.plan(kind), worth[kind]);
        }
        HalfHere idle = Kit.told("p0,0,0,1;kp01,0,0,1;kp01,0,0,2;kp01,0,0,4;", "kp01,0,0,8;kp01,0,0,16;kp01,0,0,32;");
        Boundary.to("plan(0), one who HELPS none of six WORKS", idle.plan(WHOLES), 0);
        Boundary.to("plan(0)", x.plan(WHOLES), 15);
        Boundary.to("plan(3)", x.plan(SPARE), 15);
        for (int none : NO_KINDS) {
            Boundary.refused("plan(" + none + ")", Boundary::busy, y -> y.plan(none), -2);
        }
    }

    private static void planned() {
        Boundary.sentence(19, "How many TWELFTHS of a PERSON are at a WORK by a PLAN. -2; -1 either.");
        HalfHere x = Boundary.after(Boundary::busy);
        Boundary.to("planned(0, 0, 0)", x.planned(WHOLES, 0, 0), 12);
        Boundary.to("planned(0, 1, 1)", x.planned(WHOLES, 1, 1), 12);
        Boundary.to("planned(3, 1, 2)", x.planned(SPARE, 1, 2), 0);
        for (int none : NO_KINDS) {
            Boundary.refused("planned(" + none + ", 0, 0)", Boundary::busy, y -> y.planned(none, 0, 0), -2);
        }
        for (int none : new int[] {2, -1, 6, LEAST, MOST}) {
            Boundary.refused("planned(0, " + none + ", 0)", Boundary::busy, y -> y.planned(0, none, 0), -1);
        }
        for (int none : new int[] {3, -1, 6, LEAST, MOST}) {
            Boundary.refused("planned(0, 0, " + none + ")", Boundary::busy, y -> y.planned(0, 0, none), -1);
        }
    }

    private static void plannedOrder() {
        Boundary.sentence(19, "the first that fits in the order in which it tells them");
        Boundary.to("nobody alone", Boundary.after(Boundary::busy).planned(0, 2, 0), -1);
        Boundary.refused("planned(4, 2, 3)", Boundary::busy, x -> x.planned(4, 2, 3), -2);
        Boundary.refused("planned(-1, -1, -1)", Boundary::busy, x -> x.planned(-1, -1, -1), -2);
    }

    private static void threeByThree(HalfHere x) {
        Kit.tell(x, "p10,0,0,1;p10,0,0,1;p10,0,0,1;");
        Kit.tell(x, "kp010,0,0,1;kp010,0,0,2;kp010,0,0,3;");
    }

    private static void fourPersons(HalfHere x) {
        threeByThree(x);
        Kit.tell(x, "p10,0,0,1;");
        Boundary.bustle(x);
    }

    private static void fourWorks(HalfHere x) {
        threeByThree(x);
        Kit.tell(x, "kp010,0,0,4;");
        Boundary.bustle(x);
    }

    private static void threeAndThree() {
        Boundary.sentence(20, "BEST: with 3 PERSONS and 3 WORKS at most:");
        Boundary.to("three and three", Boundary.after(BoundaryOfPlans::threeByThree).best(), 6);
        Boundary.refused("four PERSONS", BoundaryOfPlans::fourPersons, HalfHere::best, -6);
        Boundary.refused("four WORKS", BoundaryOfPlans::fourWorks, HalfHere::best, -6);
        HalfHere x = Boundary.after(y -> {
            threeByThree(y);
            y.lose(0);
        });
        Boundary.to("three, one LOST", x.best(), 6);
        Boundary.refused("four PERSONS, one LOST", y -> {
            fourPersons(y);
            y.lose(0);
        }, HalfHere::best, -6);
    }

    private static String quartersOf(HalfHere x) {
        StringBuilder all = new StringBuilder();
        for (int person = 0; person < x.count(1); person++) {
            for (int work = 0; work < x.count(2); work++) {
                all.append(x.quarters(person, work)).append(work + 1 < x.count(2) ? " " : ";");
            }
        }
        return all.append(" ").append(x.best()).toString();
    }

    private static int areQuarters(HalfHere x, String due) {
        String got = quartersOf(x);
        if (!got.equals(due)) {
            System.out.println("the quarters are " + got + ", due is " + due);
        }
        return got.equals(due) ? 1 : 0;
    }

    private static void quartersBelowLeast() {
        Boundary.sentence(21, "a PART below its LEAST gives nothing, but is there for TWO)");
        Boundary.to("LEAST 3, one quarter", areQuarters(Kit.told("p60,0,0,3;kp01,0,0,5;"), "1; 5"), 1);
        Boundary.past("LEAST 4, one quarter is below", areQuarters(Kit.told("p60,0,0,4;kp01,0,0,5;"), "2; 5"), 1);
        Boundary.to("LEAST 6, two quarters", areQuarters(Kit.told("p60,0,0,6;kp01,0,0,5;"), "2; 5"), 1);
        Boundary.past("LEAST 7, two are below", areQuarters(Kit.told("p60,0,0,7;kp01,0,0,5;"), "3; 5"), 1);
        Boundary.to("LEAST 9, three quarters", areQuarters(Kit.told("p60,0,0,9;kp01,0,0,5;"), "3; 5"), 1);
        Boundary.past("LEAST 10, three are below", areQuarters(Kit.told("p60,0,0,10;kp01,0,0,5;"), "4; 5"), 1);
        Boundary.to("LEAST 12, four quarters", areQuarters(Kit.told("p60,0,0,12;kp01,0,0,5;"), "4; 5"), 1);
        Boundary.to("there for TWO", areQuarters(Kit.told("p60,0,0,12;p10,0,0,1;kt015,0,0,5;"), "1;4; 5"), 1);
        Boundary.to("the second is there for TWO", areQuarters(Kit.told("p10,0,0,1;p0,0,0,12;kt015,0,0,5;"), "4;1; 5"), 1);
        Boundary.past("it gives nothing", areQuarters(Kit.told("p60,0,0,12;p10,0,0,1;kt016,0,0,5;"), "4;0; 5"), 1);
    }

    private static void quartersOnePart() {
        Boundary.sentence(21, "each PERSON in quarters (3 TWELFTHS, those at one WORK are one PART;");
        Boundary.to("three quarters are LARGE", areQuarters(Kit.told("p10,0,0,1;kl07,0,0,5;"), "3; 5"), 1);
        Boundary.past("two are not", areQuarters(Kit.told("p10,0,0,1;kl05,0,0,5;"), "3; 5"), 1);
        Boundary.to("three quarters are HARD, untired", areQuarters(Kit.told("p12,0,0,1;kh09,0,0,5;"), "3; 5"), 1);
        Boundary.past("three of 11 are too few", areQuarters(Kit.told("p11,0,0,1;kh09,0,0,5;"), "4; 5"), 1);
        Boundary.past("four of 11 are too few", areQuarters(Kit.told("p11,0,0,1;kh012,0,0,5;"), "0; 0"), 1);
        Boundary.to("four are WHOLE", areQuarters(Kit.told("p10,0,0,1;kw01,0,0,5;"), "4; 5"), 1);
        Boundary.to("just DONE by two", areQuarters(Kit.told("p10,0,0,1;kp05,0,0,5;"), "2; 5"), 1);
        Boundary.past("not DONE by two", areQuarters(Kit.told("p10,0,0,1;kp06,0,0,5;"), "3; 5"), 1);
        Boundary.to("all four", areQuarters(Kit.told("p10,0,0,1;kp010,0,0,5;"), "4; 5"), 1);
        Boundary.past("four are too few", areQuarters(Kit.told("p10,0,0,1;kp011,0,0,5;"), "0; 0"), 1);
        Boundary.to("two and two", areQuarters(Kit.told("p10,0,0,1;kp05,0,0,5;kp05,0,0,4;"), "2 2; 9"), 1);
        Boundary.past("three and two", areQuarters(Kit.told("p10,0,0,1;kp06,0,0,4;kp05,0,0,5;"), "0 2; 5"), 1);
    }

    private static void quartersFirst() {
        Boundary.sentence(21, "of several the first by PERSONS' numbers: quarters at WORK 0 (0 ..), then at WORK 1, ..: how many quarters.");
        Boundary.to("either PERSON: 0 of the first", areQuarters(Kit.told("p10,0,0,1;p10,0,0,1;kp010,0,0,5;"), "0;4; 5"), 1);
        Boundary.to("either WORK: 0 at the first", areQuarters(Kit.told("p10,0,0,1;kp010,0,0,5;kp010,0,0,5;"), "0 4; 5"), 1);
        Boundary.past("the first WORK has more WORTH", areQuarters(Kit.told("p10,0,0,1;kp010,0,0,6;kp010,0,0,5;"), "4 0; 6"), 1);
        Boundary.past("the first PERSON has more", areQuarters(Kit.told("p11,0,0,1;p10,0,0,1;kp011,0,0,5;"), "1;4; 5"), 1);
        Boundary.to("no quarter for WORTH 0", areQuarters(Kit.told("p10,0,0,1;kp010,0,0,0;"), "0; 0"), 1);
        Boundary.past("WORTH 1", areQuarters(Kit.told("p10,0,0,1;kp010,0,0,1;"), "4; 1"), 1);
        Boundary.to("no quarter more than it takes",
            areQuarters(Boundary.after(BoundaryOfPlans::threeByThree), "0 0 4;0 4 0;4 0 0; 6"), 1);
    }

    private static void quartersGreatest() {
        Boundary.sentence(20, "each quarter at a WORK or at none: the greatest WORTH;");
        Boundary.to("both can not be: the one of more", areQuarters(Kit.told("p10,0,0,1;kp06,0,0,4;kp06,0,0,5;"), "0 3; 5"), 1);
        Boundary.past("both can be", areQuarters(Kit.told("p10,0,0,1;kp05,0,0,4;kp05,0,0,5;"), "2 2; 9"), 1);
        Boundary.to("two small ones are more", areQuarters(Kit.told("p10,0,0,1;kp010,0,0,8;kp05,0,0,4;kp05,0,0,5;"), "0 2 2; 9"), 1);
        Boundary.past("one large is more", areQuarters(Kit.told("p10,0,0,1;kp010,0,0,10;kp05,0,0,4;kp05,0,0,5;"), "4 0 0; 10"), 1);
        Boundary.to("one large is as much: the first", areQuarters(Kit.told("p10,0,0,1;kp010,0,0,9;kp05,0,0,4;kp05,0,0,5;"), "0 2 2; 9"), 1);
        Boundary.to("nobody", Kit.told("kp00,0,0,5;kp01,0,0,4;").best(), 5);
        HalfHere x = Kit.told("p10,0,0,1;kp010,0,0,5;");
        x.image();
        Boundary.to("one WORK", areQuarters(x, "4; 5"), 1);
        Kit.tell(x, "kp010,0,0,6;");
        Boundary.past("one more", areQuarters(x, "0 4; 6"), 1);
        x.on();
        Boundary.to("ON from one", areQuarters(x, "4; 5"), 1);
        Boundary.to("no WORKS", Kit.told("p10,0,0,1;").best(), 0);
    }

    private static void best() {
        Boundary.sentence(20, "WORTH of BEST. -6 more than 3 PERSONS, WORKS.");
        Boundary.to("none", new HalfHere().best(), 0);
        HalfHere grows = Kit.told("p10,0,0,1;p10,0,0,1;kp010,0,0,1;");
        Boundary.to("one WORK", areQuarters(grows, "0;4; 1"), 1);
        Kit.tell(grows, "kp010,0,0,2;");
        Boundary.to("two WORKS", areQuarters(grows, "0 4;4 0; 3"), 1);
        Kit.tell(grows, "kp05,0,0,4;");
        Boundary.to("three WORKS", areQuarters(grows, "0 0 2;0 4 0; 6"), 1);
        Boundary.to("three PERSONS", Kit.told("p1,1,1,1;p1,1,1,1;p1,1,1,1;").best(), 0);
        Boundary.to("three WORKS", Kit.told("kp00,0,0,1;kp00,0,0,1;kp00,0,0,1;").best(), 3);
        Boundary.refused("four PERSONS, no WORK", x -> Kit.tell(x, "p1,1,1,1;p1,1,1,1;p1,1,1,1;p1,1,1,1;"), HalfHere::best, -6);
        Boundary.refused("four WORKS, nobody", x -> Kit.tell(x, "kp00,0,0,1;kp00,0,0,1;kp00,0,0,1;kp00,0,0,1;"), HalfHere::best, -6);
    }

    private static void quarters() {
        Boundary.sentence(21, "Quarters of a PERSON at a WORK by BEST. -1 either; -6 likewise.");
        HalfHere x = Boundary.after(BoundaryOfPlans::threeByThree);
        Boundary.to("quarters(0, 0)", x.quarters(0, 0), 0);
        Boundary.to("quarters(2, 0)", x.quarters(2, 0), 4);
        Boundary.to("quarters(2, 2)", x.quarters(2, 2), 0);
        for (int none : new int[] {3, -1, 6, LEAST, MOST}) {
            Boundary.refused("quarters(" + none + ", 0)", BoundaryOfPlans::threeByThree, y -> y.quarters(none, 0), -1);
            Boundary.refused("quarters(0, " + none + ")", BoundaryOfPlans::threeByThree, y -> y.quarters(0, none), -1);
        }
        Boundary.refused("quarters(3, 0), four PERSONS", BoundaryOfPlans::fourPersons, y -> y.quarters(3, 0), -6);
        Boundary.refused("quarters(0, 3), four WORKS", BoundaryOfPlans::fourWorks, y -> y.quarters(0, 3), -6);
    }

    private static void quartersOrder() {
        Boundary.sentence(21, "the first that fits in the order in which it tells them");
        Boundary.to("four PERSONS alone", Boundary.after(BoundaryOfPlans::fourPersons).quarters(0, 0), -6);
        Boundary.refused("quarters(4, 0), four PERSONS", BoundaryOfPlans::fourPersons, y -> y.quarters(4, 0), -1);
        Boundary.refused("quarters(0, 4), four WORKS", BoundaryOfPlans::fourWorks, y -> y.quarters(0, 4), -1);
    }

    private static void must() {
        Boundary.sentence(22, "MUST (bits); -9.");
        Boundary.to("nobody, no WORK", new HalfHere().must(), 0);
        Boundary.to("just DONE by one", Kit.told("p10,0,0,1;kw010,0,0,1;").must(), 1);
        HalfHere x = Kit.told("p10,0,0,1;kw011,0,0,1;");
        Boundary.past("one less", x.must(), -9);
        Boundary.past("-9 is not counted", x.count(11) + x.count(12) + x.count(13) + x.count(14) + x.count(15) + x.count(16), 0);
        Boundary.past("nobody there", Kit.told("kw01,0,0,1;").must(), -9);
        Boundary.to("nobody there, it needs nothing", Kit.told("kw00,0,0,1;").must(), 0);
        Boundary.to("all six", Kit.told("p1,0,0,1;p1,0,0,1;p1,0,0,1;", "p1,0,0,1;p1,0,0,1;p1,0,0,1;", "kw06,0,0,1;").must(), 63);
        Boundary.past("six are too few", Kit.told("p1,0,0,1;p1,0,0,1;p1,0,0,1;", "p1,0,0,1;p1,0,0,1;p1,0,0,1;", "kw07,0,0,1;").must(), -9);
    }

    private static void mustWholes() {
        Boundary.sentence(22, "who, whole, each at one of the WHOLE ones (w alone), could make all of these DONE,");
        Boundary.to("one for one", Kit.told("p9,9,0,1;p0,0,0,1;kw09,0,0,1;").must(), 1);
        Boundary.past("one for two", Kit.told("p9,9,0,1;p0,0,0,1;kw09,0,0,1;kw00,9,0,1;").must(), -9);
        Boundary.to("two for two", Kit.told("p9,9,0,1;p0,9,0,1;kw09,0,0,1;kw00,9,0,1;").must(), 3);
        Boundary.past("two for three", Kit.told("p60,0,0,1;p60,0,0,1;", "kw01,0,0,1;kw01,0,0,1;kw01,0,0,1;").must(), -9);
        Boundary.to("two for three, one needs nothing", Kit.told("p60,0,0,1;p60,0,0,1;", "kw01,0,0,1;kw00,0,0,1;kw01,0,0,1;").must(), 3);
        for (char kind : "plthsp".toCharArray()) {
            Boundary.to("none is WHOLE: " + kind, Kit.told("p1,1,1,1;k" + kind + "09,0,0,1;").must(), 0);
        }
        HalfHere x = Kit.told("p10,0,0,1;kw010,0,0,1;");
        x.lose(0);
        Boundary.to("whole, though LOST", x.must(), 1);
    }

    private static void mustFewest() {
        Boundary.sentence(22, "MUST: the fewest PERSONS (bits)");
        Boundary.to("one ahead of two", Kit.told("p5,0,0,1;p5,0,0,1;p10,0,0,1;kw010,0,0,1;").must(), 4);
        Boundary.past("two, where one is too few", Kit.told("p5,0,0,1;p5,0,0,1;p9,0,0,1;kw010,0,0,1;").must(), 3);
    }

    private static void mustLeastBits() {
        Boundary.sentence(22, "could make all of these DONE, of several the least as bits; -9.");
        Boundary.to("0 and 1 ahead of 0 and 2", Kit.told("p5,0,0,1;p5,0,0,1;p5,0,0,1;kw010,0,0,1;").must(), 3);
        Boundary.past("0 and 2 ahead of 1 and 2", Kit.told("p5,0,0,1;p5,0,0,1;p6,0,0,1;kw011,0,0,1;").must(), 5);
        Boundary.past("1 and 2", Kit.told("p4,0,0,1;p5,0,0,1;p6,0,0,1;kw011,0,0,1;").must(), 6);
    }

    private static void with() {
        Boundary.sentence(23, "for a TWO work the two PERSONS who, whole, make it WELL most,");
        Boundary.to("0 and 3, the first of three", Kit.told("p1,0,0,1;p1,0,0,1;p1,0,0,1;p2,0,0,1;kt09,0,0,1;").with(0), 3);
        Boundary.past("1 and 3, by one more", Kit.told("p1,0,0,1;p2,0,0,1;p1,0,0,1;p2,0,0,1;kt09,0,0,1;").with(0), 13);
        Boundary.to("4 and 5", Kit.told("p1,0,0,1;p1,0,0,1;p1,0,0,1;", "p1,0,0,1;p2,0,0,1;p2,0,0,1;", "kt09,0,0,1;").with(0), 45);
        HalfHere x = Kit.told("p9,0,0,1;p1,0,0,1;p1,0,0,1;kt09,0,0,1;");
        x.lose(0);
        Boundary.past("whole, though LOST", x.with(0), 1);
    }

    private static void withFirst() {
        Boundary.sentence(23, "of several the first (10 times the lesser and the other); -9.");
        Boundary.to("all alike", Kit.told("p1,0,0,1;p1,0,0,1;p1,0,0,1;kt09,0,0,1;").with(0), 1);
        Boundary.past("one more of 2", Kit.told("p1,0,0,1;p1,0,0,1;p2,0,0,1;kt09,0,0,1;").with(0), 2);
        Boundary.to("1 at most: 2 is no more", Kit.told("p1,0,0,1;p1,0,0,1;p2,0,0,1;kt03,0,0,1;").with(0), 1);
        Boundary.past("one more is needed", Kit.told("p1,0,0,1;p1,0,0,1;p2,0,0,1;kt04,0,0,1;").with(0), 2);
        Boundary.to("it needs nothing", Kit.told("p1,0,0,1;p1,0,0,1;p2,0,0,1;kt00,0,0,1;").with(0), 1);
        Boundary.to("nothing is done", Kit.told("p1,0,0,1;p1,0,0,1;p2,0,0,1;kt00,1,0,1;").with(0), 1);
    }

    private static void withFewer() {
        Boundary.sentence(23, "WITH; -9 fewer than two PERSONS. -1; -2 another KIND.");
        Boundary.to("two PERSONS", Kit.told("p1,0,0,1;p1,0,0,1;kt01,0,0,1;").with(0), 1);
        HalfHere x = Kit.told("p1,0,0,1;kt01,0,0,1;");
        Boundary.past("one PERSON", x.with(0), -9);
        Boundary.past("nobody", Kit.told("kt01,0,0,1;").with(0), -9);
        Boundary.past("-9 is not counted", x.count(11) + x.count(12), 0);
        Boundary.to("with(1) of busy", Boundary.after(Boundary::busy).with(1), 1);
        for (int none : new int[] {3, -1, 6, LEAST, MOST}) {
            Boundary.refused("with(" + none + ")", Boundary::busy, y -> y.with(none), -1);
        }
        for (char kind : "pwlsh".toCharArray()) {
            Boundary.refused("kind " + kind, y -> Kit.tell(y, "p1,1,1,1;p1,1,1,1;k" + kind + "00,0,0,1;"), y -> y.with(0), -2);
        }
    }

    private static void withOrder() {
        Boundary.sentence(23, "the first that fits in the order in which it tells them");
        Boundary.to("one PERSON alone", Kit.told("p1,0,0,1;kt01,0,0,1;").with(0), -9);
        Boundary.refused("one PERSON, no such WORK", x -> Kit.tell(x, "p1,0,0,1;kt01,0,0,1;"), x -> x.with(1), -1);
        Boundary.refused("one PERSON, another KIND", x -> Kit.tell(x, "p1,0,0,1;kp01,0,0,1;"), x -> x.with(0), -2);
    }

    private static void thin() {
        Boundary.sentence(24, "THIN: in how many PARTS at most a PERSON can be (12 by LEAST, cut).");
        int[] due = {12, 6, 4, 3, 2, 2, 1, 1, 1, 1, 1, 1};
        for (int least = 1; least <= 12; least++) {
            HalfHere x = Kit.told("p1,1,1," + least + ";");
            int thin = x.thin(0);
            Boundary.to("LEAST " + least, thin, due[least - 1]);
            for (int parts = 1; parts < thin; parts++) {
                Boundary.to("LEAST " + least + ", so many PARTS", x.split(0, least), parts);
            }
            Boundary.past("LEAST " + least + ", one more", x.split(0, least), -3);
        }
    }

    private static void thinRefused() {
        Boundary.sentence(24, "THIN. -1.");
        Boundary.to("thin(0)", Boundary.after(Boundary::busy).thin(0), 4);
        Boundary.to("thin(1)", Boundary.after(Boundary::busy).thin(1), 3);
        for (int none : new int[] {2, -1, 6, LEAST, MOST}) {
            Boundary.refused("thin(" + none + ")", Boundary::busy, y -> y.thin(none), -1);
        }
    }

    private static void few() {
        Boundary.sentence(25, "FEW: for a WORK of KIND p the least TWELFTHS of a PERSON that make it DONE; -9.");
        Boundary.to("just by 6", Kit.told("p10,0,0,1;kp05,0,0,1;").few(0, 0), 6);
        Boundary.past("6 are too few", Kit.told("p10,0,0,1;kp06,0,0,1;").few(0, 0), 8);
        Boundary.to("just by 12", Kit.told("p10,0,0,1;kp010,0,0,1;").few(0, 0), 12);
        HalfHere x = Kit.told("p10,0,0,1;kp011,0,0,1;");
        Boundary.past("12 are too few", x.few(0, 0), -9);
        Boundary.past("-9 is not counted", x.count(11) + x.count(12), 0);
        Boundary.to("just by 1", Kit.told("p60,0,0,1;kp05,0,0,1;").few(0, 0), 1);
        Boundary.past("1 is too few", Kit.told("p60,0,0,1;kp06,0,0,1;").few(0, 0), 2);
        Boundary.to("the most of what it needs", Kit.told("p60,12,6,1;kp05,4,3,1;").few(0, 0), 6);
        Boundary.past("nothing of what it needs", Kit.told("p60,0,0,1;kp00,1,0,1;").few(0, 0), -9);
        // Fewer than LEAST are no PART, and only a PART gives.
        Boundary.to("just by LEAST", Kit.told("p10,0,0,6;kp05,0,0,1;").few(0, 0), 6);
        Boundary.past("LEAST is more", Kit.told("p10,0,0,7;kp05,0,0,1;").few(0, 0), 7);
        x = Kit.told("p10,0,0,1;kp05,0,0,1;");
        x.lose(0);
        Boundary.to("in mind, though LOST", x.few(0, 0), 6);
    }

    private static void fewKinds() {
        Boundary.sentence(25, "FEW; -9. -1 either; -2 another KIND.");
        Boundary.to("few(0, 0)", Boundary.after(Boundary::busy).few(0, 0), 10);
        Boundary.to("few(1, 0)", Boundary.after(Boundary::busy).few(1, 0), -9);
        for (int none : new int[] {2, -1, 6, LEAST, MOST}) {
            Boundary.refused("few(" + none + ", 0)", Boundary::busy, y -> y.few(none, 0), -1);
        }
        for (int none : new int[] {3, -1, 6, LEAST, MOST}) {
            Boundary.refused("few(0, " + none + ")", Boundary::busy, y -> y.few(0, none), -1);
        }
        for (char kind : "wltsh".toCharArray()) {
            Boundary.refused("kind " + kind, y -> Kit.tell(y, "p1,1,1,1;k" + kind + "00,0,0,1;"), y -> y.few(0, 0), -2);
        }
    }

    private static void fewOrder() {
        Boundary.sentence(25, "the first that fits in the order in which it tells them");
        Boundary.to("another KIND alone", Boundary.after(Boundary::busy).few(0, 1), -2);
        Boundary.refused("nobody, another KIND", Boundary::busy, x -> x.few(2, 1), -1);
        Boundary.refused("nobody, no such WORK", Boundary::busy, x -> x.few(2, 3), -1);
    }
}
