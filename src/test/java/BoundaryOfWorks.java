/** Boundaries of KINDS of WORKS: what PARTS give, how well it is, promises 16 and 17. */
final class BoundaryOfWorks {
    private static final int LEAST = Integer.MIN_VALUE;
    private static final int MOST = Integer.MAX_VALUE;

    private BoundaryOfWorks() {
    }

    static void all() {
        tooTired();
        plain();
        whole();
        large();
        two();
        twoCut();
        twoTooTired();
        skill();
        hard();
        hardTooTired();
        wellLeast();
        wellOneAtMost();
        wellLeastTerms();
        done();
        does();
        well();
    }

    /** One person of some gifts at the one work, with so many TWELFTHS, so TIRED. */
    private static HalfHere at(String gifts, char kind, int twelfths, int tired) {
        HalfHere x = Kit.told("p" + gifts + ",1;k" + kind + "00,0,0,1;");
        if (tired > 0) {
            x.at(0, 0);
            x.toil(0, tired);
        }
        if (twelfths < 12) {
            x.split(0, 12 - twelfths);
        }
        x.at(0, 0);
        return x;
    }

    private static int strength(String gifts, char kind, int twelfths, int tired) {
        return at(gifts, kind, twelfths, tired).does(0, 0);
    }

    private static void tooTired() {
        Boundary.sentence(16, "its PERSON's times TWELFTHS; nothing, if TIRED is above 240.");
        for (char kind : "pwlts".toCharArray()) {
            Boundary.to("TIRED 240, kind " + kind, strength("10,5,2", kind, 12, 240), 120);
            Boundary.past("TIRED 241, kind " + kind, strength("10,5,2", kind, 12, 241), 0);
        }
        HalfHere x = at("10,5,2", 'p', 12, 240);
        Boundary.to("TIRED 240, WITS", x.does(0, 1), 60);
        Boundary.to("TIRED 240, VOICE", x.does(0, 2), 24);
        x.toil(0, 1);
        Boundary.past("TIRED 241, WITS", x.does(0, 1), 0);
        Boundary.past("TIRED 241, VOICE", x.does(0, 2), 0);
        x.rest(0, 1);
        Boundary.to("TIRED 239 again", x.does(0, 0), 120);
    }

    private static void plain() {
        Boundary.sentence(16, "PLAIN all of that.");
        Boundary.to("1 TWELFTH", strength("10,5,2", 'p', 1, 0), 10);
        Boundary.to("12 TWELFTHS", strength("60,5,2", 'p', 12, 0), 720);
        Boundary.to("STRENGTH 0", strength("0,5,2", 'p', 12, 0), 0);
        HalfHere x = at("10,5,2", 'p', 11, 0);
        Boundary.past("one at no WORK", x.does(0, 0), 110);
        x.at(1, 0);
        Boundary.to("both at it", x.does(0, 0), 120);
    }

    private static void whole() {
        Boundary.sentence(16, "WHOLE: only PARTS of 12.");
        Boundary.to("12", strength("10,5,2", 'w', 12, 0), 120);
        Boundary.past("11", strength("10,5,2", 'w', 11, 0), 0);
        HalfHere x = at("10,5,2", 'w', 11, 0);
        x.at(1, 0);
        Boundary.past("11 and 1 at it", x.does(0, 0), 0);
        x.join(0, 1);
        x.at(0, 0);
        Boundary.to("12 again", x.does(0, 0), 120);
        x.lose(0);
        Boundary.past("none", x.does(0, 0), 0);
    }

    private static void large() {
        Boundary.sentence(16, "LARGE: only PARTS of 8 or more.");
        Boundary.to("8", strength("10,5,2", 'l', 8, 0), 80);
        Boundary.to("9", strength("10,5,2", 'l', 9, 0), 90);
        Boundary.to("12", strength("10,5,2", 'l', 12, 0), 120);
        Boundary.past("7", strength("10,5,2", 'l', 7, 0), 0);
        HalfHere x = at("10,5,2", 'l', 8, 0);
        x.at(1, 0);
        Boundary.past("8 and 4 at it", x.does(0, 0), 80);
    }

    /** One TWELFTH of STRENGTH 1, WITS 3, VOICE 4, a PERSON with nothing, both at PLACE 0. */
    private static HalfHere pair() {
        HalfHere x = Kit.told("p1,3,4,1;p0,0,0,1;kt00,0,0,1;");
        x.split(0, 11);
        x.at(0, 0);
        return x;
    }

    private static void two() {
        Boundary.sentence(16, "if PARTS of two PERSONS or more are at it.");
        HalfHere x = pair();
        Boundary.to("one PART", x.does(0, 2), 4);
        x.at(2, 0);
        Boundary.to("two PARTS of one PERSON", x.does(0, 2), 48);
        x.at(2, -1);
        x.at(1, 0);
        Boundary.past("PARTS of two PERSONS", x.does(0, 2), 6);
        x = Kit.told("p0,0,8,1;p0,0,8,1;p0,0,8,1;kt00,0,0,1;");
        x.at(0, 0);
        x.at(1, 0);
        Boundary.past("two PERSONS", x.does(0, 2), 288);
        x.at(2, 0);
        Boundary.past("three PERSONS, half as much more once", x.does(0, 2), 432);
        x.lose(0);
        x.lose(1);
        Boundary.to("one again", x.does(0, 2), 96);
        x = Kit.told("p60,0,0,1;p60,0,0,1;p60,0,0,1;", "p60,0,0,1;p60,0,0,1;p60,0,0,1;", "kt0200,0,0,1;");
        for (int part = 0; part < 6; part++) {
            x.at(part, 0);
        }
        Boundary.past("the greatest sum", x.does(0, 0), 6480);
    }

    private static void twoCut() {
        Boundary.sentence(16, "TWO: as PLAIN, but the sums are half as much more (cut)");
        HalfHere x = pair();
        x.at(1, 0);
        Boundary.to("4 and half of it", x.does(0, 2), 6);
        Boundary.past("1 and half of it, cut", x.does(0, 0), 1);
        Boundary.past("3 and half of it, cut", x.does(0, 1), 4);
        x = Kit.told("p1,0,0,1;p1,0,0,1;kt00,0,0,1;");
        x.split(0, 11);
        x.split(1, 11);
        x.at(0, 0);
        x.at(1, 0);
        Boundary.to("the sum is halved, not each", x.does(0, 0), 3);
    }

    private static void twoTooTired() {
        Boundary.sentence(16, "nothing, if TIRED is above 240.");
        HalfHere x = Kit.told("p0,0,8,1;p0,0,8,1;kt00,0,0,1;");
        x.at(0, 0);
        x.at(1, 0);
        x.toil(1, 240);
        Boundary.to("TIRED 240", x.does(0, 2), 288);
        x.toil(1, 1);
        Boundary.past("TIRED 241: it gives nothing, but is at it", x.does(0, 2), 144);
        x.at(1, -1);
        Boundary.past("it is not at it", x.does(0, 2), 96);
    }

    private static void skill() {
        Boundary.sentence(16, "SKILL as PLAIN, but of WITS twice.");
        HalfHere x = at("10,5,2", 's', 1, 0);
        Boundary.to("WITS of 1 TWELFTH", x.does(0, 1), 10);
        Boundary.past("STRENGTH of 1 TWELFTH", x.does(0, 0), 10);
        Boundary.past("VOICE of 1 TWELFTH", x.does(0, 2), 2);
        Boundary.to("WITS 60", at("0,60,0", 's', 12, 0).does(0, 1), 1440);
        Boundary.to("WITS 0", at("9,0,9", 's', 12, 0).does(0, 1), 0);
    }

    private static void hard() {
        Boundary.sentence(16, "HARD as LARGE, and (STRENGTH less TIRED, 0 at least) in place of STRENGTH (that times TWELFTHS, then).");
        Boundary.to("untired", strength("10,5,2", 'h', 12, 0), 120);
        Boundary.to("TIRED 1", strength("10,5,2", 'h', 12, 1), 108);
        Boundary.to("TIRED 9", strength("10,5,2", 'h', 12, 9), 12);
        Boundary.to("TIRED 10", strength("10,5,2", 'h', 12, 10), 0);
        Boundary.past("TIRED 11", strength("10,5,2", 'h', 12, 11), 0);
        Boundary.to("8 TWELFTHS, TIRED 9", strength("10,5,2", 'h', 8, 9), 8);
        Boundary.past("7 TWELFTHS", strength("10,5,2", 'h', 7, 0), 0);
        Boundary.past("7 TWELFTHS, WITS", at("10,5,2", 'h', 7, 0).does(0, 1), 0);
        Boundary.to("TIRED 11, WITS", at("10,5,2", 'h', 12, 11).does(0, 1), 60);
        Boundary.to("TIRED 11, VOICE", at("10,5,2", 'h', 12, 11).does(0, 2), 24);
    }

    private static void hardTooTired() {
        Boundary.sentence(16, "h HARD under LARGE. What a PART GIVES to a WORK of STRENGTH, of WITS, of VOICE: "
            + "its PERSON's times TWELFTHS; nothing, if TIRED is above 240.");
        Boundary.to("TIRED 240, WITS", at("60,5,2", 'h', 12, 240).does(0, 1), 60);
        Boundary.to("TIRED 240, STRENGTH", at("60,5,2", 'h', 12, 240).does(0, 0), 0);
        Boundary.past("TIRED 241, WITS", at("60,5,2", 'h', 12, 241).does(0, 1), 0);
    }

    private static HalfHere needing(String needs) {
        HalfHere x = Kit.told("p1,2,3,1;kp0" + needs + ",1;");
        x.at(0, 0);
        return x;
    }

    private static void wellIs(boolean isTo, String when, HalfHere x, int above, int below) {
        if (isTo) {
            Boundary.to(when + ", above", x.well(0, 0), above);
            Boundary.to(when + ", below", x.well(0, 1), below);
        } else {
            Boundary.past(when + ", above", x.well(0, 0), above);
            Boundary.past(when + ", below", x.well(0, 1), below);
        }
    }

    private static void wellLeast() {
        Boundary.sentence(17, "WELL: the least, over what it needs of above 0, of DOES by 12 times that;");
        // Done of 12, 24, 36.
        wellIs(true, "1 of STRENGTH", needing("1,0,0"), 1, 1);
        wellIs(true, "2 of STRENGTH", needing("2,0,0"), 1, 2);
        wellIs(true, "2, 2, 3", needing("2,2,3"), 1, 2);
        wellIs(true, "1, 3, 3", needing("1,3,3"), 2, 3);
        wellIs(true, "1, 2, 4", needing("1,2,4"), 3, 4);
        wellIs(true, "4, 5, 6: 1 by 4 of STRENGTH", needing("4,5,6"), 1, 4);
        wellIs(true, "3, 8, 9: 1 by 4 of WITS", needing("3,8,9"), 1, 4);
        HalfHere x = Kit.told("p0,2,3,1;kp00,2,3,1;kp01,2,3,1;");
        x.at(0, 0);
        wellIs(true, "nothing done of what it does not need", x, 1, 1);
        x.at(0, 1);
        Boundary.past("nothing done of what it needs, above", x.well(1, 0), 0);
        Boundary.past("nothing done of what it needs, below", x.well(1, 1), 1);
    }

    private static void wellOneAtMost() {
        Boundary.sentence(17, "1 at most (1, if it needs nothing), in least terms.");
        wellIs(true, "just 1", needing("1,2,3"), 1, 1);
        wellIs(false, "more than 1", needing("1,1,1"), 1, 1);
        wellIs(false, "more than 1 of one", needing("1,1,0"), 1, 1);
        HalfHere x = needing("1,2,3");
        x.split(0, 1);
        wellIs(true, "just below 1", x, 11, 12);
        wellIs(true, "it needs nothing", needing("0,0,0"), 1, 1);
        x = Kit.told("kp00,0,0,1;");
        wellIs(true, "it needs nothing, nobody there", x, 1, 1);
        x = Kit.told("kp01,0,0,1;");
        wellIs(false, "it needs 1, nobody there", x, 0, 1);
        x = Kit.told("kp0200,200,200,1;");
        wellIs(false, "it needs most, nobody there", x, 0, 1);
    }

    private static void wellLeastTerms() {
        Boundary.sentence(17, "in least terms. It is DONE, if that is 1.");
        wellIs(true, "12 by 2400", needing("200,0,0"), 1, 200);
        HalfHere x = needing("200,0,0");
        x.split(0, 11);
        wellIs(true, "1 by 2400", x, 1, 2400);
        x = needing("200,0,0");
        x.split(0, 1);
        wellIs(true, "11 by 2400", x, 11, 2400);
        x = needing("199,0,0");
        wellIs(true, "12 by 2388", x, 1, 199);
        x = needing("10,0,0");
        x.split(0, 6);
        wellIs(false, "6 by 120", x, 1, 20);
        x = needing("10,0,0");
        x.split(0, 5);
        wellIs(false, "7 by 120", x, 7, 120);
    }

    private static void done() {
        Boundary.sentence(33, "It is DONE, if that is 1.");
        Boundary.to("just 1", needing("1,2,3").count(4), 1);
        HalfHere x = needing("1,2,3");
        x.split(0, 1);
        Boundary.past("just below 1", x.count(4), 0);
        x.at(1, 0);
        Boundary.to("with the other", x.count(4), 1);
        Boundary.past("2 of STRENGTH", needing("2,0,0").count(4), 0);
        Boundary.to("needs nothing, nobody there", Kit.told("kw00,0,0,1;").count(4), 1);
        Boundary.past("needs 1, nobody there", Kit.told("kw00,0,1,1;").count(4), 0);
        Boundary.to("all six", Kit.told("kp00,0,0,1;kw00,0,0,1;kl00,0,0,1;", "kt00,0,0,1;ks00,0,0,1;kh00,0,0,1;").count(4), 6);
    }

    private static void does() {
        Boundary.sentence(16, "DOES of STRENGTH (what 0), WITS (1), VOICE (2). -1; -2.");
        HalfHere x = Boundary.after(Boundary::busy);
        int[] due = {108, 54, 27};
        for (int what = 0; what <= 2; what++) {
            Boundary.to("does(0, " + what + ")", x.does(0, what), due[what]);
            Boundary.to("does(2, " + what + "), nobody there", x.does(2, what), 0);
        }
        for (int none : new int[] {3, -1, 6, LEAST, MOST}) {
            Boundary.refused("does(" + none + ", 0)", Boundary::busy, y -> y.does(none, 0), -1);
        }
        for (int none : new int[] {3, -1, LEAST, MOST}) {
            Boundary.refused("does(0, " + none + ")", Boundary::busy, y -> y.does(0, none), -2);
        }
        Boundary.refused("does(3, 3)", Boundary::busy, y -> y.does(3, 3), -1);
    }

    private static void well() {
        Boundary.sentence(17, "WELL, part 0 above, 1 below the line. -1; -2.");
        HalfHere x = Boundary.after(Boundary::busy);
        Boundary.to("well(0, 0)", x.well(0, 0), 9);
        Boundary.to("well(0, 1)", x.well(0, 1), 10);
        Boundary.to("well(2, 0), nobody there", x.well(2, 0), 0);
        Boundary.to("well(2, 1), nobody there", x.well(2, 1), 1);
        for (int none : new int[] {3, -1, 6, LEAST, MOST}) {
            Boundary.refused("well(" + none + ", 0)", Boundary::busy, y -> y.well(none, 0), -1);
        }
        for (int none : new int[] {2, -1, LEAST, MOST}) {
            Boundary.refused("well(0, " + none + ")", Boundary::busy, y -> y.well(0, none), -2);
        }
        Boundary.refused("well(3, 2)", Boundary::busy, y -> y.well(3, 2), -1);
    }
}
