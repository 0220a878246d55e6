/** Promises 16 and 17: does and well, for each kind of work. */
public final class WorksTest {
    private WorksTest() {
    }

    public static void main(String[] args) {
        plain();
        whole();
        large();
        two();
        skill();
        hard();
        thin();
        tooTired();
        well();
        refused();
        Kit.end("WorksTest");
    }

    private static void does(HalfHere x, String when, int strength, int wits, int voice) {
        Kit.due(when + ", strength", x.does(0, 0), strength);
        Kit.due(when + ", wits", x.does(0, 1), wits);
        Kit.due(when + ", voice", x.does(0, 2), voice);
    }

    private static void plain() {
        HalfHere x = Kit.told("p10,5,2,1;p3,4,60,2;kp00,0,0,1;");
        does(x, "nobody", 0, 0, 0);
        x.at(0, 0);
        does(x, "one", 120, 60, 24);
        x.split(0, 5);
        does(x, "seven twelfths", 70, 35, 14);
        x.at(2, 0);
        x.at(1, 0);
        does(x, "two", 156, 108, 744);
        x.lose(0);
        does(x, "one lost", 86, 73, 730);
        x.at(1, -1);
        does(x, "one off", 50, 25, 10);
    }

    private static void whole() {
        HalfHere x = Kit.told("p10,5,2,1;p3,4,60,2;kw00,0,0,1;");
        x.at(0, 0);
        x.at(1, 0);
        does(x, "two whole", 156, 108, 744);
        x.split(0, 1);
        does(x, "eleven give nothing", 36, 48, 720);
        x.at(2, 0);
        does(x, "nor with the twelfth", 36, 48, 720);
        x.join(0, 2);
        x.at(0, 0);
        does(x, "whole again", 156, 108, 744);
    }

    private static void large() {
        HalfHere x = Kit.told("p10,5,2,1;p3,4,60,2;kl00,0,0,1;");
        x.at(0, 0);
        x.split(0, 4);
        does(x, "eight", 80, 40, 16);
        x.split(0, 1);
        does(x, "seven", 0, 0, 0);
        x.at(1, 0);
        does(x, "a whole one", 36, 48, 720);
    }

    private static void two() {
        HalfHere x = Kit.told("p10,5,1,1;p3,5,1,1;kt00,0,0,1;");
        x.at(0, 0);
        does(x, "one", 120, 60, 12);
        x.split(0, 5);
        x.at(2, 0);
        does(x, "two of one person", 120, 60, 12);
        x.split(1, 1);
        x.at(3, 0);
        does(x, "two persons, cut", 184, 97, 19);
        x.at(3, -1);
        x.at(1, 0);
        does(x, "with eleven", 229, 172, 34);
        x.toil(1, 600);
        does(x, "too tired, but there", 180, 90, 18);
    }

    private static void skill() {
        HalfHere x = Kit.told("p10,5,2,1;ks00,0,0,1;");
        x.at(0, 0);
        does(x, "wits twice", 120, 120, 24);
        x.split(0, 5);
        does(x, "seven", 70, 70, 14);
    }

    private static void hard() {
        HalfHere x = Kit.told("p50,5,2,1;kh00,0,0,1;");
        x.at(0, 0);
        does(x, "untired", 600, 60, 24);
        x.toil(0, 20);
        does(x, "tired 20", 360, 60, 24);
        x.split(0, 4);
        does(x, "eight", 240, 40, 16);
        x.toil(0, 20);
        Kit.due("tired", x.partOf(0, 5), 50);
        does(x, "tired 50", 0, 40, 16);
        x.toil(0, 2);
        does(x, "tired above strength", 0, 40, 16);
        x.split(0, 1);
        does(x, "seven", 0, 0, 0);
    }

    /** What one twelfth and eleven give, by the kind. */
    private static void thin() {
        String[] kinds = {"p", "w", "l", "t", "s", "h"};
        int[][] due = {{10, 5, 2}, {0, 0, 0}, {0, 0, 0}, {10, 5, 2}, {10, 10, 2}, {0, 0, 0}};
        int[][] most = {{110, 55, 22}, {0, 0, 0}, {110, 55, 22}, {110, 55, 22}, {110, 110, 22}, {110, 55, 22}};
        for (int i = 0; i < kinds.length; i++) {
            HalfHere x = Kit.told("p10,5,2,1;k" + kinds[i] + "00,0,0,1;");
            x.split(0, 1);
            x.at(1, 0);
            does(x, "one twelfth, " + kinds[i], due[i][0], due[i][1], due[i][2]);
            x.at(1, -1);
            x.at(0, 0);
            does(x, "eleven, " + kinds[i], most[i][0], most[i][1], most[i][2]);
        }
    }

    private static void tooTired() {
        HalfHere x = Kit.told("p10,5,2,1;kp00,0,0,1;");
        x.at(0, 0);
        x.toil(0, 240);
        does(x, "240", 120, 60, 24);
        x.toil(0, 1);
        does(x, "241", 0, 0, 0);
        x.rest(0, 1);
        does(x, "239", 120, 60, 24);
    }

    private static void well(HalfHere x, String when, int work, int above, int below) {
        Kit.due(when + ", above", x.well(work, 0), above);
        Kit.due(when + ", below", x.well(work, 1), below);
    }

    private static void well() {
        HalfHere x = Kit.told("p10,5,2,1;p3,4,60,2;kp020,10,0,1;kp00,0,0,1;kp00,0,7,1;");
        well(x, "nobody", 0, 0, 1);
        well(x, "nothing needed", 1, 1, 1);
        x.at(0, 0);
        well(x, "half", 0, 1, 2);
        x.split(0, 3);
        well(x, "nine", 0, 3, 8);
        x.at(1, 0);
        well(x, "the least of 126 by 240 and 93 by 120", 0, 21, 40);
        x.at(1, 2);
        well(x, "1 at most", 2, 1, 1);
        x.at(1, -1);
        x.at(0, 2);
        well(x, "18 by 84", 2, 3, 14);
        Kit.due("one is done", x.count(4), 1);
        x.at(1, 2);
        Kit.due("two are done", x.count(4), 2);
        x = Kit.told("p10,5,2,1;kp010,0,0,1;");
        x.at(0, 0);
        well(x, "just so", 0, 1, 1);
        x = Kit.told("p0,0,9,1;p3,0,9,1;kt01,0,0,9;");
        x.at(0, 0);
        well(x, "nothing of it", 0, 0, 1);
        x.split(1, 2);
        x.at(2, 0);
        well(x, "6 and 3 by 12", 0, 3, 4);
    }

    private static void refused() {
        HalfHere x = Kit.told("p10,5,2,1;kp00,0,0,1;");
        Kit.due("does(1, 0)", x.does(1, 0), -1);
        Kit.due("does(-1, 9)", x.does(-1, 9), -1);
        Kit.due("does(0, 3)", x.does(0, 3), -2);
        Kit.due("does(0, -1)", x.does(0, -1), -2);
        Kit.due("well(1, 0)", x.well(1, 0), -1);
        Kit.due("well(-1, 9)", x.well(-1, 9), -1);
        Kit.due("well(0, 2)", x.well(0, 2), -2);
        Kit.due("well(0, -1)", x.well(0, -1), -2);
        Kit.due("-1", x.count(11), 4);
        Kit.due("-2", x.count(12), 4);
    }
}
