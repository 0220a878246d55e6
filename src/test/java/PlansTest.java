/** Promises 18 to 25: plan, planned, best, quarters, must, with, thin, few. */
public final class PlansTest {
    private static final int WHOLES = 0;
    private static final int EVEN = 1;
    private static final int NEED = 2;
    private static final int SPARE = 3;

    private PlansTest() {
    }

    public static void main(String[] args) {
        noWorks();
        wholes();
        wholesHelp();
        even();
        need();
        needOfKinds();
        spare();
        plansAreInMind();
        planRefused();
        best();
        askedAlone();
        bestOfThree();
        bestTies();
        bestBelowLeast();
        bestAfterChanges();
        bestRefused();
        must();
        mustSeveral();
        with();
        thin();
        few();
        Kit.end("PlansTest");
    }

    /** All twelfths of a plan, a row of works a person. */
    private static void planned(HalfHere x, String when, int kind, int worth, String due) {
        Kit.due(when + ", worth", x.plan(kind), worth);
        StringBuilder all = new StringBuilder();
        for (int person = 0; person < x.count(1); person++) {
            for (int work = 0; work < x.count(2); work++) {
                all.append(work == 0 ? "" : " ").append(x.planned(kind, person, work));
            }
            all.append(';');
        }
        Kit.due(when, all.toString(), due);
    }

    private static void noWorks() {
        HalfHere x = Kit.told("p1,1,1,1;");
        for (int kind = 0; kind <= 3; kind++) {
            Kit.due("no works, plan(" + kind + ")", x.plan(kind), 0);
        }
        x = Kit.told("kp00,0,0,7;kp00,0,1,9;kw00,0,0,3;");
        for (int kind = 0; kind <= 3; kind++) {
            Kit.due("no persons, plan(" + kind + ")", x.plan(kind), 10);
        }
    }

    private static void wholes() {
        HalfHere x = Kit.told("p10,0,0,1;p10,0,0,1;p10,5,0,1;p0,5,0,1;",
            "kp015,0,0,3;kp00,0,0,40;kw25,0,0,20;kl00,9,0,50;");
        planned(x, "wholes", WHOLES, 63, "12 0 0 0;12 0 0 0;0 0 12 0;0 0 0 12;");
        x = Kit.told("p10,0,0,1;p0,0,9,1;p10,0,0,1;", "kp030,0,0,3;kp00,0,5,4;");
        planned(x, "wholes, one not done", WHOLES, 4, "12 0;0 12;12 0;");
    }

    private static void wholesHelp() {
        HalfHere x = Kit.told("p10,10,0,1;p10,0,0,1;", "kp00,30,0,3;kp05,0,0,4;");
        planned(x, "a gift that is not needed does not help", WHOLES, 4, "12 0;0 12;");
        x = Kit.told("p10,0,0,1;p0,0,0,1;", "kt015,0,0,3;");
        planned(x, "the second of two helps by being there", WHOLES, 3, "12;12;");
        x = Kit.told("p0,9,0,1;p0,9,0,1;", "kt015,1,0,3;kp00,1,0,5;");
        planned(x, "twice: of wits more, then of wits more", WHOLES, 0, "12 0;12 0;");
        x = Kit.told("p0,9,0,1;p0,0,0,1;p0,0,0,1;", "ks018,18,0,3;");
        planned(x, "nobody helps a second time", WHOLES, 0, "12;0;0;");
    }

    private static void even() {
        HalfHere x = Kit.told("p10,10,10,2;p20,20,20,3;p4,0,0,1;",
            "kp02,0,0,1;kp08,0,0,2;kw01,0,0,4;kt014,0,0,8;ks00,17,0,16;");
        planned(x, "even", EVEN, 1, "2 2 2 2 2;0 0 0 0 0;2 2 2 2 2;");
        x = Kit.told("p10,10,10,4;p20,20,20,3;p4,0,0,5;", "kp010,0,0,1;kt015,0,0,2;ks00,20,0,4;");
        planned(x, "even, of three", EVEN, 7, "4 4 4;4 4 4;0 0 0;");
        x = Kit.told("p10,10,10,12;p20,20,20,12;", "kw030,0,0,1;");
        planned(x, "even, of one", EVEN, 1, "12;12;");
        x = Kit.told("p60,10,10,12;p60,20,20,6;", "kw030,0,0,1;kl00,0,0,2;");
        planned(x, "even, large ones", EVEN, 2, "0 0;6 6;");
        x = Kit.told("p60,1,1,1;p60,1,1,2;p60,1,1,3;", "kp01,0,0,1;kp01,0,0,2;kp01,0,0,4;", "kp01,0,0,8;kp01,0,0,16;kp01,0,0,32;");
        planned(x, "even, of six", EVEN, 63, "2 2 2 2 2 2;2 2 2 2 2 2;0 0 0 0 0 0;");
    }

    private static void need() {
        HalfHere x = Kit.told("p10,0,0,3;p20,0,5,2;", "kp02,0,0,1;kp06,0,0,2;kp09,0,0,4;kp00,0,9,8;");
        // Person 0: 3 by LEAST, then 8 of the 9 that are free, then 1 is free, below LEAST.
        planned(x, "need", NEED, 7, "3 8 0 0;0 0 6 6;");
        x = Kit.told("p10,0,0,3;p20,0,0,2;", "kp015,0,0,1;kp015,0,0,2;");
        planned(x, "need: all of one, some of the next", NEED, 3, "12 0;3 9;");
        x = Kit.told("p10,0,0,5;p0,5,0,2;", "kp00,0,0,9;kp06,0,0,1;kp06,9,0,2;");
        planned(x, "need: free below least", NEED, 10, "0 8 0;0 0 12;");
        x = Kit.told("p1,0,0,12;p60,0,0,1;", "kp02,0,0,1;");
        planned(x, "need: all of the first", NEED, 1, "12;1;");
        x = Kit.told("p0,9,0,1;p60,0,0,1;", "kp02,0,0,1;");
        planned(x, "need: the first does not help", NEED, 1, "0;1;");
    }

    private static void needOfKinds() {
        HalfHere x = Kit.told("p10,10,0,1;p10,0,0,1;", "kl05,0,0,1;kw08,0,0,2;kw010,0,0,4;");
        planned(x, "need: large, whole", NEED, 3, "8 0 0;0 12 0;");
        x = Kit.told("p10,10,0,1;p0,0,0,3;", "ks00,10,0,1;kt07,0,0,2;");
        planned(x, "need: skill, two", NEED, 3, "6 6;0 3;");
        x = Kit.told("p10,0,0,1;p60,0,0,1;", "kw020,0,0,1;kh01,0,0,2;");
        planned(x, "need: whole, hard", NEED, 1, "12 0;12 0;");
        x = Kit.told("p10,0,0,1;p60,0,0,9;", "kh030,0,0,1;kl045,0,0,2;");
        planned(x, "need: hard", NEED, 1, "12 0;9 0;");
    }

    private static void spare() {
        HalfHere x = Kit.told("p10,0,0,3;p20,0,0,2;", "kp015,0,0,1;kp05,0,0,2;");
        planned(x, "spare", SPARE, 3, "9 0;5 3;");
        planned(x, "need, for that", NEED, 3, "12 0;3 3;");
        x = Kit.told("p10,0,0,6;p20,0,0,7;p30,0,0,12;", "kp05,0,0,1;kp01,0,0,2;");
        planned(x, "spare: six of twelve, none of others", SPARE, 1, "6 0;0 0;0 0;");
        x = Kit.told("p10,0,0,1;", "kp03,0,0,1;kp05,0,0,2;kp02,0,0,4;");
        planned(x, "spare: one left", SPARE, 3, "4 6 1;");
    }

    private static void plansAreInMind() {
        HalfHere x = Kit.told("n4;w01,10;p10,0,0,3;p20,0,0,2;", "kp315,0,0,1;kp25,0,0,2;");
        x.at(0, 0);
        x.split(0, 6);
        x.lose(2);
        x.split(0, 3);
        x.go(0, 1);
        String before = Kit.shown(x);
        planned(x, "need", NEED, 3, "12 0;3 3;");
        planned(x, "spare", SPARE, 3, "9 0;5 3;");
        planned(x, "wholes", WHOLES, 1, "12 0;12 0;");
        Kit.due("best, with what is lost", x.best(), 3);
        Kit.due("few, with what is lost", x.few(0, 1), 6);
        Kit.due("all as it was", Kit.shown(x), before);
    }

    private static void planRefused() {
        HalfHere x = Kit.told("p10,0,0,3;kp00,0,0,1;");
        Kit.due("plan(4)", x.plan(4), -2);
        Kit.due("plan(-1)", x.plan(-1), -2);
        Kit.due("planned(4, 9, 9)", x.planned(4, 9, 9), -2);
        Kit.due("planned(-1, 0, 0)", x.planned(-1, 0, 0), -2);
        Kit.due("planned(0, 1, 0)", x.planned(0, 1, 0), -1);
        Kit.due("planned(0, -1, 0)", x.planned(0, -1, 0), -1);
        Kit.due("planned(3, 0, 1)", x.planned(3, 0, 1), -1);
        Kit.due("planned(3, 0, -1)", x.planned(3, 0, -1), -1);
        Kit.due("-2", x.count(12), 4);
        Kit.due("-1", x.count(11), 4);
    }

    private static void quartered(HalfHere x, String when, int worth, String due) {
        Kit.due(when + ", worth", x.best(), worth);
        StringBuilder all = new StringBuilder();
        for (int person = 0; person < x.count(1); person++) {
            for (int work = 0; work < x.count(2); work++) {
                all.append(work == 0 ? "" : " ").append(x.quarters(person, work));
            }
            all.append(';');
        }
        Kit.due(when, all.toString(), due);
    }

    private static void best() {
        Kit.due("nobody, nothing", new HalfHere().best(), 0);
        Kit.due("nothing", Kit.told("p1,1,1,1;").best(), 0);
        Kit.due("nobody", Kit.told("kp00,0,0,5;kp01,0,0,3;").best(), 5);
        quartered(Kit.told("p20,0,0,1;", "kp05,0,0,2;kp010,0,0,3;kp06,0,0,4;"), "one", 7, "0 2 2;");
        quartered(Kit.told("p20,0,0,1;p10,0,0,1;", "kp05,0,0,2;kp010,0,0,3;kp06,0,0,4;"), "two", 9, "0 1 2;2 2 0;");
        quartered(Kit.told("p20,0,0,1;p10,0,0,1;p0,9,0,1;", "kt015,6,0,9;kw020,0,0,8;ks00,18,0,7;"),
            "three", 17, "0 4 0;4 0 0;2 0 0;");
        quartered(Kit.told("p20,0,0,1;p10,0,0,1;p0,9,0,1;", "kt015,6,0,9;kl020,0,0,8;kh018,0,0,7;"),
            "three, of kinds", 17, "0 4 0;4 0 0;2 0 0;");
    }

    /** Each call on its own, with nothing asked before it. */
    private static void askedAlone() {
        Kit.due("planned alone", Kit.told("p10,0,0,1;kp05,0,0,2;").planned(NEED, 0, 0), 6);
        Kit.due("quarters alone", Kit.told("p10,0,0,1;kp05,0,0,2;").quarters(0, 0), 2);
        HalfHere x = Kit.told("p10,0,0,1;kp05,0,0,2;");
        x.plan(WHOLES);
        Kit.due("planned by another plan", x.planned(SPARE, 0, 0), 6);
        x = Kit.told("w01,5;p1,1,1,1;");
        Kit.due("together alone", x.together(0, 1), 0);
    }

    private static void bestOfThree() {
        quartered(Kit.told("p20,9,0,1;p9,8,20,1;p0,6,30,1;", "kp015,0,10,9;kt05,5,5,8;ks00,9,9,7;"),
            "all three by three", 24, "2 1 0;3 0 0;0 1 3;");
    }

    private static void bestTies() {
        quartered(Kit.told("p10,0,0,1;p10,0,0,1;p10,0,0,1;", "kp010,0,0,5;"), "the last does it", 5, "0;0;4;");
        quartered(Kit.told("p10,0,0,1;p10,0,0,1;", "kp010,0,0,5;kp010,0,0,5;kp010,0,0,5;"),
            "the last works", 10, "0 0 4;0 4 0;");
        quartered(Kit.told("p10,0,0,1;", "kp00,0,0,5;kp09,0,0,0;"), "no quarter for nothing", 5, "0 0;");
        quartered(Kit.told("p12,0,0,1;p12,0,0,1;", "kp06,0,0,5;kp012,0,0,4;"), "as few as can be at work 0, then at work 1", 9, "0 2;2 2;");
    }

    private static void bestBelowLeast() {
        quartered(Kit.told("p60,0,0,4;", "kp01,0,0,5;"), "one quarter is below least", 5, "2;");
        quartered(Kit.told("p60,0,0,3;", "kp01,0,0,5;"), "one quarter is least", 5, "1;");
        quartered(Kit.told("p60,0,0,10;", "kp01,0,0,5;kp01,0,0,5;"), "four are least", 5, "0 4;");
        quartered(Kit.told("p60,0,0,12;p10,0,0,1;", "kt015,0,0,5;"), "there for two", 5, "1;4;");
        quartered(Kit.told("p60,0,0,12;p10,0,0,1;", "kt016,0,0,5;"), "gives nothing", 5, "4;0;");
        quartered(Kit.told("p10,0,0,1;p60,0,0,12;", "kt015,0,0,5;kw060,0,0,6;"), "one or the other", 6, "0 0;0 4;");
    }

    private static void bestAfterChanges() {
        HalfHere x = Kit.told("p10,0,0,1;kp010,0,0,5;");
        quartered(x, "one", 5, "4;");
        x.image();
        Kit.tell(x, "p10,0,0,1;");
        quartered(x, "one more", 5, "0;4;");
        Kit.tell(x, "kp010,0,0,6;x");
        quartered(x, "a fault", 5, "0;4;");
        Kit.tell(x, "kp010,0,0,6;");
        quartered(x, "a work more", 11, "0 4;4 0;");
        x.lose(0);
        quartered(x, "lost", 11, "0 4;4 0;");
        x.on();
        quartered(x, "on from the image", 5, "4;");
        x = Kit.told("p10,0,0,1;kp0200,0,0,5;");
        x.image();
        Kit.tell(x, "kp010,0,0,6;");
        quartered(x, "one of two can be done", 6, "0 4;");
        x.on();
        quartered(x, "on from where none can be done", 0, "0;");
    }

    private static void bestRefused() {
        HalfHere x = Kit.told("p1,1,1,1;p1,1,1,1;p1,1,1,1;p1,1,1,1;", "kp00,0,0,1;");
        Kit.due("four persons", x.best(), -6);
        Kit.due("four persons, quarters", x.quarters(0, 0), -6);
        Kit.due("nobody first", x.quarters(4, 0), -1);
        Kit.due("no work first", x.quarters(0, 1), -1);
        Kit.due("below", x.quarters(-1, 0), -1);
        Kit.due("work below", x.quarters(0, -1), -1);
        x = Kit.told("p1,1,1,1;", "kp00,0,0,1;kp00,0,0,1;kp00,0,0,1;kp00,0,0,1;");
        Kit.due("four works", x.best(), -6);
        Kit.due("four works, quarters", x.quarters(0, 3), -6);
        Kit.due("-6", x.count(16), 2);
        x = Kit.told("p1,1,1,1;p1,1,1,1;p1,1,1,1;", "kp00,0,0,1;kp00,0,0,1;kp00,0,0,1;");
        Kit.due("three and three", x.best(), 3);
        Kit.due("three and three, quarters", x.quarters(2, 2), 0);
        Kit.due("a fourth", x.quarters(3, 0), -1);
        Kit.due("a fourth work", x.quarters(0, 3), -1);
    }

    private static void must() {
        Kit.due("nothing", new HalfHere().must(), 0);
        Kit.due("no whole work", Kit.told("p1,1,1,1;kl09,0,0,1;kh09,0,0,1;kp09,0,0,1;").must(), 0);
        Kit.due("one that needs nothing", Kit.told("p1,1,1,1;kw00,0,0,1;").must(), 0);
        Kit.due("nobody can", Kit.told("p1,1,1,1;kw02,0,0,1;").must(), -9);
        Kit.due("nobody there", Kit.told("kw02,0,0,1;").must(), -9);
        Kit.due("the second", Kit.told("p1,1,1,1;p2,1,1,1;p2,1,1,1;kw02,1,1,1;").must(), 2);
        Kit.due("two together", Kit.told("p1,9,0,1;p2,0,0,1;p2,0,9,1;kw02,9,9,1;").must(), 5);
        HalfHere x = Kit.told("p2,1,1,1;kw02,1,1,1;");
        x.lose(0);
        Kit.due("in mind, whole", x.must(), 1);
        Kit.due("not counted", x.count(11) + x.count(12) + x.count(13), 0);
    }

    private static void mustSeveral() {
        String persons = "p9,0,0,1;p0,9,0,1;p5,5,0,1;p0,0,9,1;p60,60,60,1;";
        Kit.due("one for all of one work", Kit.told(persons, "kw09,9,0,1;").must(), 16);
        Kit.due("one for each", Kit.told(persons, "kw09,9,0,1;kw00,0,9,1;").must(), 24);
        Kit.due("the least as bits", Kit.told(persons, "kw05,0,0,1;kw00,5,0,1;").must(), 3);
        Kit.due("others take part", Kit.told(persons, "kw05,0,0,1;kw00,5,0,1;kw01,1,0,1;").must(), 7);
        Kit.due("too many works", Kit.told("p60,0,0,1;p60,0,0,1;", "kw01,0,0,1;kw01,0,0,1;kw01,0,0,1;").must(), -9);
        Kit.due("six for six", Kit.told("p1,0,0,1;p2,0,0,1;p3,0,0,1;", "p1,0,0,1;p2,0,0,1;p3,0,0,1;",
            "kw01,0,0,1;kw02,0,0,1;kw03,0,0,1;", "kw01,0,0,1;kw02,0,0,1;kw03,0,0,1;").must(), 63);
        Kit.due("four of six", Kit.told("p1,0,0,1;p2,0,0,1;p3,0,0,1;", "p1,0,0,1;p2,0,0,1;p3,0,0,1;",
            "kw06,0,0,1;kp050,0,0,1;kw04,0,0,1;").must(), 54);
        Kit.due("which is not enough", Kit.told("p1,0,0,1;p2,0,0,1;p3,0,0,1;", "p1,0,0,1;p2,0,0,1;p3,0,0,1;",
            "kw09,0,0,1;kw04,0,0,1;").must(), -9);
    }

    private static void with() {
        HalfHere x = Kit.told("p10,0,0,1;p5,5,0,1;p0,20,0,1;p9,9,9,1;", "kt030,30,0,1;kp00,0,0,1;");
        Kit.due("0 and 3: 0.45, 1 and 2: 0.25, 1 and 3: 0.7, 2 and 3: 0.45", x.with(0), 13);
        Kit.due("another kind", x.with(1), -2);
        Kit.due("no work", x.with(2), -1);
        Kit.due("below", x.with(-1), -1);
        x = Kit.told("p10,0,0,1;p5,5,0,1;p0,20,0,1;p9,9,9,1;", "kt00,0,0,1;kt01,1,0,1;kt00,0,200,1;");
        Kit.due("nothing needed", x.with(0), 1);
        Kit.due("1 at most", x.with(1), 1);
        Kit.due("the first of three", x.with(2), 3);
        x = Kit.told("p1,0,0,1;p1,0,0,1;p1,0,0,1;p1,0,0,1;p1,0,0,1;p2,0,0,1;", "kt0200,0,0,1;");
        Kit.due("0 and 5", x.with(0), 5);
        Kit.tell(x, "kt0200,0,1,1;");
        Kit.due("nobody speaks", x.with(1), 1);
        x = Kit.told("p1,0,0,1;", "kt01,0,0,1;kw01,0,0,1;");
        Kit.due("one person", x.with(0), -9);
        Kit.due("another kind, one person", x.with(1), -2);
        Kit.due("no work, one person", x.with(2), -1);
        Kit.due("nobody", Kit.told("kt00,0,0,1;").with(0), -9);
    }

    private static void thin() {
        int[] least = {1, 2, 3, 4, 5, 6, 7, 8, 9, 10, 11, 12};
        int[] due = {12, 6, 4, 3, 2, 2, 1, 1, 1, 1, 1, 1};
        for (int i = 0; i < least.length; i++) {
            HalfHere x = Kit.told("p1,1,1," + least[i] + ";");
            Kit.due("thin with least " + least[i], x.thin(0), due[i]);
            x.lose(0);
            Kit.due("lost, thin with least " + least[i], x.thin(0), due[i]);
            Kit.due("thin(1)", x.thin(1), -1);
            Kit.due("thin(-1)", x.thin(-1), -1);
        }
    }

    private static void few() {
        HalfHere x = Kit.told("p10,24,0,1;p10,24,0,8;", "kp010,0,0,1;kp05,4,0,1;kp01,7,0,1;kp011,0,0,1;", "kp00,0,1,1;kw00,0,0,1;");
        int[] due = {12, 6, 4, -9, -9};
        for (int work = 0; work < due.length; work++) {
            Kit.due("few(0, " + work + ")", x.few(0, work), due[work]);
        }
        Kit.due("few, not below least", x.few(1, 1), 8);
        Kit.due("few, above least", x.few(1, 0), 12);
        Kit.due("another kind", x.few(0, 5), -2);
        Kit.due("no work", x.few(0, 6), -1);
        Kit.due("nobody", x.few(2, 0), -1);
        Kit.due("nobody, another kind", x.few(2, 5), -1);
        Kit.due("below", x.few(-1, 0), -1);
        Kit.due("work below", x.few(0, -1), -1);
        x = Kit.told("p9,9,9,1;", "kl00,0,0,1;kt00,0,0,1;ks00,0,0,1;kh00,0,0,1;");
        for (int work = 0; work < 4; work++) {
            Kit.due("kind " + x.work(work, 0), x.few(0, work), -2);
        }
    }
}
