/** Promises 1 to 6: a new object, feed, village, person, work, minutes. */
public final class ToldTest {
    private ToldTest() {
    }

    public static void main(String[] args) {
        newObject();
        feed();
        statements();
        formFaults();
        senseFaults();
        faultsLeaveNothing();
        placesTold();
        ways();
        personsTold();
        roomForParts();
        worksTold();
        person();
        work();
        minutes();
        Kit.end("ToldTest");
    }

    private static void newObject() {
        HalfHere x = new HalfHere();
        Kit.due("places", x.count(0), 3);
        for (int what = 1; what <= 6; what++) {
            Kit.due("count(" + what + ") at first", x.count(what), 0);
        }
        for (int what = 11; what <= 16; what++) {
            Kit.due("count(" + what + ") at first", x.count(what), 0);
        }
        Kit.due("no way", x.minutes(0, 2), -9);
        Kit.due("no image", x.on(), -3);
    }

    private static void feed() {
        HalfHere x = new HalfHere();
        Kit.due("feed(0)", x.feed(0), 1);
        Kit.due("feed(255)", x.feed(255), 2);
        Kit.due("feed(-1)", x.feed(-1), -4);
        Kit.due("feed(256)", x.feed(256), -6);
        Kit.due("feed least", x.feed(Integer.MIN_VALUE), -4);
        Kit.due("feed most", x.feed(Integer.MAX_VALUE), -6);
        Kit.due("two letters", x.count(6), 2);
        for (int i = 3; i <= 64; i++) {
            Kit.due("feed no. " + i, x.feed('n'), i);
        }
        Kit.due("feed no. 65", x.feed('n'), -6);
        Kit.due("feed below, when full", x.feed(-1), -4);
        Kit.due("64 letters", x.count(6), 64);
        Kit.due("-4", x.count(14), 3);
        Kit.due("-6", x.count(16), 3);
        Kit.due("letter 0", x.village(), -1000);
        Kit.due("none left", x.count(6), 0);
        Kit.due("room again", x.feed(1), 1);
    }

    private static void statements() {
        HalfHere x = new HalfHere();
        Kit.due("n", Kit.tell(x, "n5;"), 1);
        Kit.due("places", x.count(0), 5);
        Kit.due("several", Kit.tell(x, "n6;w05,07;p01,2,03,04;kl5007,08,9,01;"), 4);
        Kit.due("places", x.count(0), 6);
        Kit.due("minutes", x.minutes(5, 0), 7);
        Kit.due("gifts", x.person(0, 0) * 100 + x.person(0, 1) * 10 + x.person(0, 2), 123);
        Kit.due("least", x.person(0, 3), 4);
        Kit.due("kind", x.work(0, 0), 2);
        Kit.due("place", x.work(0, 1), 5);
        Kit.due("needs", x.work(0, 2) * 100 + x.work(0, 3) * 10 + x.work(0, 4), 789);
        Kit.due("worth", x.work(0, 5), 1);
        Kit.due("a full tape", Kit.tell(new HalfHere(), "n3;n4;n3;n4;n3;n4;n3;n4;n3;n4;n3;n4;n3;n4;n3;n4;n3;n4;w01,10;n6;"), 20);
        Kit.due("64 letters without the last sign",
            Kit.tell(new HalfHere(), "n3;n4;n3;n4;n3;n4;n3;n4;n3;n4;n3;n4;n3;n4;n3;n4;n3;n4;w01,10;n60"), -1063);
        Kit.due("64 letters, something lacks",
            Kit.tell(new HalfHere(), "n3;n4;n3;n4;n3;n4;n3;n4;n3;n4;n3;n4;n3;n4;n3;n4;n3;n4;p10,10,10,"), -1064);
    }

    private static void formFaults() {
        String[] tapes = {
            "", ";", "N3;", "n", "n;", "n3", "n33;", "n3;;", "n3; n3;", "n3;x", "n-1;",
            "w", "w0", "w01", "w01;", "w01,", "w01,;", "w01,100;", "w0,1;", "w01,1", "w01,10",
            "p", "p1;", "p1,2;", "p1,2,3;", "p1,2,3,;", "p1,2,3,4", "p100,2,3,4;", "p1,200,3,4;", "p1,2,3,100;",
            "p1,2,3,4,5;", "p,2,3,4;", "pp",
            "k", "k0", "kn00,0,0,1;", "kP", "kp", "kpx", "kp0", "kp0,", "kp01000,0,0,1;", "kp00,0001,0,1;",
            "kp00,0,0,100;", "kp00,0,0;", "kp00,0,0,;", "kp00,0,0,1", "kp00,0,0,1,",
        };
        int[] places = {
            0, 0, 0, 1, 1, 2, 2, 3, 3, 3, 1,
            1, 2, 3, 3, 4, 4, 6, 2, 5, 6,
            1, 2, 4, 6, 7, 8, 3, 5, 9,
            8, 1, 1,
            1, 1, 1, 1, 2, 2, 3, 3, 6, 8,
            11, 8, 9, 10, 10,
        };
        for (int i = 0; i < tapes.length; i++) {
            Kit.due("village() of " + tapes[i], Kit.tell(new HalfHere(), tapes[i]), -1000 - places[i]);
        }
    }

    private static void senseFaults() {
        String[] good = {
            "n1;", "n6;", "w02,1;", "w02,60;", "w12,01;", "p0,0,0,1;", "p60,60,60,12;", "p00,09,0,01;",
            "kp0200,200,200,99;", "kw20,0,0,0;", "kh2000,000,000,00;", "n1;n6;w05,1;", "n6;n3;", "n6;kt50,0,0,1;n6;",
            "kp10,0,0,1;n2;", "w01,1;n2;", "p1,1,1,1;n1;",
        };
        for (String tape : good) {
            Kit.due("village() of " + tape + " is good", Kit.tell(new HalfHere(), tape) > 0 ? 1 : 0, 1);
        }
        String[] tapes = {
            "n0;", "n7;", "n9;", "w00,1;", "w22,1;", "w03,1;", "w30,1;", "w01,0;", "w01,00;", "w01,61;", "w01,99;",
            "p61,0,0,1;", "p0,61,0,1;", "p0,0,61,1;", "p0,0,0,0;", "p0,0,0,13;", "p0,0,0,00;",
            "kp0201,0,0,1;", "kp00,201,0,1;", "kp00,0,201,1;", "kp00,0,999,1;", "kp30,0,0,1;",
            "n2;w02,1;", "n2;kp20,0,0,1;", "w03,1;n6;", "kp50,0,0,1;n6;", "w02,1;n2;", "w01,1;n1;", "kp20,0,0,1;n2;",
            "n6;w05,1;n5;", "n6;w50,1;n5;", "n4;n0;w00,1;",
        };
        int[] places = {
            0, 0, 0, 0, 0, 0, 0, 0, 0, 0, 0,
            0, 0, 0, 0, 0, 0,
            0, 0, 0, 0, 0,
            3, 3, 0, 0, 6, 6, 11,
            9, 9, 3,
        };
        for (int i = 0; i < tapes.length; i++) {
            Kit.due("village() of " + tapes[i], Kit.tell(new HalfHere(), tapes[i]), -2000 - places[i]);
        }
        // A wrong letter anywhere goes ahead of a statement that is not as it must be.
        Kit.due("both kinds", Kit.tell(new HalfHere(), "n0;n3;n"), -1007);
    }

    private static void faultsLeaveNothing() {
        HalfHere x = Kit.told("n4;w01,5;p1,2,3,4;kp10,0,0,1;");
        String before = Kit.shown(x);
        int refused = x.count(11);
        Kit.due("fault of sense", Kit.tell(x, "n6;w01,9;p5,5,5,5;ks05,5,5,5;n3;w00,1;"), -2032);
        Kit.due("fault of form", Kit.tell(x, "n6;w01,9;p5,5,5,5;ks05,5,5,5;x"), -1029);
        Kit.due("all as before", Kit.shown(x), before);
        Kit.due("no letters left", x.count(6), 0);
        Kit.due("nothing counted as nobody", x.count(11) - refused, 23);
        for (int what = 12; what <= 16; what++) {
            Kit.due("nothing counted " + what, x.count(what), 0);
        }
    }

    private static void placesTold() {
        HalfHere x = Kit.told("n6;n1;");
        Kit.due("fewer, if none is told of", x.count(0), 1);
        x = Kit.told("n6;w45,1;");
        Kit.due("the second of a way, a later tape", Kit.tell(x, "n5;"), -2000);
        Kit.due("as many", Kit.tell(x, "n6;"), 1);
        x = Kit.told("n6;w04,1;kp30,0,0,1;p1,1,1,1;");
        Kit.due("five", Kit.tell(x, "n5;"), 1);
        Kit.due("four", Kit.tell(x, "n4;"), -2000);
        Kit.due("still five", x.count(0), 5);
    }

    private static void ways() {
        HalfHere x = Kit.told("w01,20;");
        Kit.due("either way", x.minutes(1, 0), 20);
        Kit.tell(x, "w10,30;");
        Kit.due("told again", x.minutes(0, 1), 30);
        Kit.due("told again, back", x.minutes(1, 0), 30);
        Kit.tell(x, "w01,40;w01,8;");
        Kit.due("told twice", x.minutes(1, 0), 8);
    }

    private static void personsTold() {
        HalfHere x = Kit.told("p1,2,3,4;p5,6,7,8;p9,10,11,12;p0,0,0,1;p0,0,0,2;");
        Kit.due("five", x.count(1), 5);
        Kit.due("a seventh", Kit.tell(x, "p0,0,0,3;p0,0,0,4;"), -2009);
        Kit.due("a sixth", Kit.tell(x, "p0,0,0,3;"), 1);
        Kit.due("a seventh alone", Kit.tell(x, "p0,0,0,3;"), -2000);
        Kit.due("six", x.count(1), 6);
        for (int i = 0; i < 6; i++) {
            Kit.due("person of part " + i, x.partOf(i, 0), i);
            Kit.due("whole " + i, x.partOf(i, 1), 12);
            for (int what = 2; what <= 6; what++) {
                Kit.due("part " + i + ", " + what, x.partOf(i, what), what == 3 ? -9 : 0);
            }
        }
        x = Kit.told("p1,1,1,1;p2,2,2,2;");
        x.lose(0);
        Kit.tell(x, "p3,3,3,3;p4,4,4,4;");
        Kit.due("the least free", x.partOf(0, 0), 2);
        Kit.due("the next free", x.partOf(2, 0), 3);
    }

    private static void roomForParts() {
        HalfHere x = Kit.told("p1,1,1,1;p1,1,1,1;");
        for (int i = 0; i < 11; i++) {
            x.split(0, 1);
            x.split(1, 1);
        }
        Kit.due("24 parts", x.count(3), 24);
        Kit.due("no number for a person", Kit.tell(x, "n4;p1,1,1,1;"), -2003);
        Kit.due("two persons", x.count(1), 2);
        x.lose(7);
        Kit.due("one number for two", Kit.tell(x, "p1,1,1,1;p1,1,1,1;"), -2009);
        Kit.due("one number for one", Kit.tell(x, "p1,1,1,1;"), 1);
        Kit.due("it takes it", x.partOf(7, 0), 2);
        Kit.due("whole", x.partOf(7, 1), 12);
    }

    private static void worksTold() {
        HalfHere x = Kit.told("kp00,0,0,1;kw10,0,0,2;kl20,0,0,3;kt00,0,0,4;ks10,0,0,5;");
        Kit.due("a seventh", Kit.tell(x, "kh20,0,0,6;kp00,0,0,7;"), -2011);
        Kit.due("a sixth", Kit.tell(x, "kh20,0,0,6;"), 1);
        Kit.due("a seventh alone", Kit.tell(x, "kp00,0,0,7;"), -2000);
        for (int i = 0; i < 6; i++) {
            Kit.due("kind " + i, x.work(i, 0), i);
            Kit.due("place " + i, x.work(i, 1), i % 3);
            Kit.due("worth " + i, x.work(i, 5), i + 1);
        }
    }

    private static void person() {
        HalfHere x = Kit.told("p11,22,33,2;p44,55,60,6;w01,5;");
        int[] due = {11, 22, 33, 2, 12, 1};
        for (int what = 0; what <= 5; what++) {
            Kit.due("person(0, " + what + ")", x.person(0, what), due[what]);
        }
        Kit.due("person(1, 2)", x.person(1, 2), 60);
        x.split(0, 4);
        x.split(0, 2);
        Kit.due("three parts", x.person(0, 5), 3);
        Kit.due("all of it", x.person(0, 4), 12);
        x.lose(2);
        Kit.due("two parts", x.person(0, 5), 2);
        Kit.due("what is left", x.person(0, 4), 8);
        Kit.due("the other", x.person(1, 4), 12);
        x.lose(0);
        x.lose(3);
        Kit.due("no parts", x.person(0, 5), 0);
        Kit.due("nothing left", x.person(0, 4), 0);
        Kit.due("still there", x.person(0, 0), 11);
        Kit.due("person(2, 0)", x.person(2, 0), -1);
        Kit.due("person(-1, 9)", x.person(-1, 9), -1);
        Kit.due("person(0, 6)", x.person(0, 6), -2);
        Kit.due("person(0, -1)", x.person(0, -1), -2);
        Kit.due("-1", x.count(11), 2);
        Kit.due("-2", x.count(12), 2);
    }

    private static void work() {
        HalfHere x = Kit.told("ks2101,102,103,77;");
        int[] due = {4, 2, 101, 102, 103, 77};
        for (int what = 0; what <= 5; what++) {
            Kit.due("work(0, " + what + ")", x.work(0, what), due[what]);
        }
        Kit.due("work(1, 0)", x.work(1, 0), -1);
        Kit.due("work(-1, 9)", x.work(-1, 9), -1);
        Kit.due("work(0, 6)", x.work(0, 6), -2);
        Kit.due("work(0, -1)", x.work(0, -1), -2);
        Kit.due("-1", x.count(11), 2);
        Kit.due("-2", x.count(12), 2);
    }

    private static void minutes() {
        HalfHere x = Kit.told("n6;w01,10;w12,10;w02,25;w23,60;w34,1;");
        Kit.due("over one between", x.minutes(0, 2), 20);
        Kit.due("back", x.minutes(2, 0), 20);
        Kit.due("over three between", x.minutes(4, 0), 81);
        Kit.due("itself", x.minutes(5, 5), 0);
        Kit.due("no way", x.minutes(0, 5), -9);
        Kit.due("no way back", x.minutes(5, 0), -9);
        Kit.tell(x, "w02,5;");
        Kit.due("shorter now", x.minutes(1, 3), 70);
        Kit.tell(x, "w02,6;w01,1;");
        Kit.due("by the other side", x.minutes(1, 2), 7);
        Kit.due("from none", x.minutes(6, 0), -1);
        Kit.due("to none", x.minutes(0, 6), -1);
        Kit.due("below", x.minutes(-1, 0), -1);
        Kit.due("to below", x.minutes(0, -1), -1);
        Kit.due("-1", x.count(11), 4);
    }
}
