/** Promises 7 to 15: partOf, split, go, see, join, at, toil, rest, lose. */
public final class PartsTest {
    private PartsTest() {
    }

    public static void main(String[] args) {
        partOf();
        split();
        splitRoom();
        go();
        see();
        join();
        at();
        toil();
        rest();
        lose();
        numbersAnew();
        Kit.end("PartsTest");
    }

    private static HalfHere twoPersons() {
        return Kit.told("w01,10;w12,7;p12,6,3,3;p20,0,9,4;kp010,2,0,7;kp10,5,0,8;");
    }

    private static void partOf() {
        HalfHere x = twoPersons();
        x.split(1, 5);
        x.go(2, 1);
        x.see(2);
        x.at(2, 1);
        x.toil(2, 5);
        int[] due = {1, 5, 1, 1, 15, 12, 2};
        for (int what = 0; what <= 6; what++) {
            Kit.due("partOf(2, " + what + ")", x.partOf(2, what), due[what]);
        }
        Kit.due("no work", x.partOf(1, 3), -9);
        Kit.due("no part", x.partOf(3, 0), -1);
        Kit.due("below", x.partOf(-1, 9), -1);
        Kit.due("above", x.partOf(24, 0), -1);
        Kit.due("what 7", x.partOf(0, 7), -2);
        Kit.due("what -1", x.partOf(0, -1), -2);
        Kit.due("-1", x.count(11), 3);
        Kit.due("-2", x.count(12), 2);
    }

    private static void split() {
        HalfHere x = twoPersons();
        x.at(0, 0);
        x.toil(0, 10);
        x.see(0);
        Kit.due("below least", x.split(0, 2), -3);
        Kit.due("left below least", x.split(0, 10), -3);
        Kit.due("all", x.split(0, 12), -3);
        Kit.due("none", x.split(0, 0), -3);
        Kit.due("far below", x.split(0, Integer.MIN_VALUE), -3);
        Kit.due("far above", x.split(0, Integer.MAX_VALUE), -3);
        Kit.due("9", x.split(0, 9), 2);
        int[] due = {0, 9, 0, -9, 10, 10, 1};
        int[] left = {0, 3, 0, 0, 10, 10, 1};
        for (int what = 0; what <= 6; what++) {
            Kit.due("the new one, " + what, x.partOf(2, what), due[what]);
            Kit.due("what is left, " + what, x.partOf(0, what), left[what]);
        }
        Kit.due("three of nine", x.split(2, 3), 3);
        Kit.due("three of six", x.split(2, 3), 4);
        Kit.due("no more", x.split(2, 3), -3);
        Kit.due("no part", x.split(5, 3), -1);
        Kit.due("below", x.split(-1, 3), -1);
        Kit.due("-3", x.count(13), 7);
        Kit.due("-1", x.count(11), 2);
        x.lose(1);
        x.lose(3);
        Kit.tell(x, "p1,1,1,6;");
        Kit.due("a person takes the least", x.partOf(1, 0), 2);
        Kit.due("the least free", x.split(1, 6), 3);
    }

    private static void splitRoom() {
        HalfHere x = Kit.told("p1,1,1,1;p1,1,1,1;p1,1,1,1;");
        for (int i = 0; i < 11; i++) {
            Kit.due("of 0", x.split(0, 1), 3 + 2 * i);
            if (i < 10) {
                Kit.due("of 1", x.split(1, 1), 4 + 2 * i);
            }
        }
        Kit.due("24 are there", x.count(3), 24);
        Kit.due("no room", x.split(2, 6), -6);
        Kit.due("state before room", x.split(0, 1), -3);
        Kit.due("nobody before all", x.split(24, 1), -1);
        x.lose(9);
        Kit.due("room again", x.split(2, 6), 9);
    }

    private static void go() {
        HalfHere x = twoPersons();
        x.at(0, 0);
        Kit.due("two ways", x.go(0, 2), 17);
        Kit.due("there", x.partOf(0, 2), 2);
        Kit.due("at no work", x.partOf(0, 3), -9);
        Kit.due("on", x.go(0, 1), 24);
        x.at(0, 1);
        Kit.due("where it is", x.go(0, 1), 24);
        Kit.due("at no work by that", x.partOf(0, 3), -9);
        Kit.due("not seen by going", x.partOf(0, 6), 0);
        Kit.tell(x, "n4;");
        x.at(0, 1);
        Kit.due("no way", x.go(0, 3), -3);
        Kit.due("still at it", x.partOf(0, 3), 1);
        Kit.due("no place", x.go(0, 4), -1);
        Kit.due("place below", x.go(0, -1), -1);
        Kit.due("no part", x.go(2, 1), -1);
        Kit.due("part below", x.go(-1, 3), -1);
        Kit.due("-3", x.count(13), 1);
        Kit.due("-1", x.count(11), 4);
    }

    private static void see() {
        HalfHere x = twoPersons();
        Kit.due("one", x.see(0), 1);
        Kit.due("the same", x.see(0), 1);
        x.go(0, 2);
        Kit.due("two", x.see(0), 2);
        Kit.due("bits", x.partOf(0, 6), 5);
        Kit.due("the other saw nothing", x.partOf(1, 6), 0);
        x.go(0, 0);
        Kit.due("again", x.see(0), 2);
        Kit.due("no time by it", x.partOf(0, 4), 34);
        Kit.due("no part", x.see(2), -1);
        Kit.due("above", x.see(24), -1);
        Kit.due("below", x.see(-1), -1);
        Kit.due("-1", x.count(11), 3);
    }

    private static void join() {
        HalfHere x = twoPersons();
        x.split(0, 5);
        x.split(0, 3);
        x.see(0);
        x.at(0, 0);
        x.toil(0, 10);
        x.go(2, 1);
        x.see(2);
        x.go(2, 0);
        x.at(2, 0);
        x.at(0, 0);
        Kit.due("tired of 0", x.partOf(0, 5), 30);
        Kit.due("clock of 2", x.partOf(2, 4), 20);
        Kit.due("joined", x.join(0, 2), 9);
        int[] due = {0, 9, 0, -9, 21, 30, 3};
        for (int what = 0; what <= 6; what++) {
            Kit.due("joined, " + what, x.partOf(0, what), due[what]);
        }
        Kit.due("no more", x.partOf(2, 0), -1);
        Kit.due("the other way about", x.join(3, 0), 12);
        Kit.due("the later clock and 1", x.partOf(3, 4), 22);
        Kit.due("the greater tired", x.partOf(3, 5), 30);
        Kit.due("all seen", x.partOf(3, 6), 3);
        Kit.due("the first is no more", x.partOf(0, 0), -1);
        Kit.due("two persons", x.join(3, 1), -3);
        x.split(3, 6);
        Kit.due("where the new one is", x.partOf(0, 1), 6);
        x.go(0, 1);
        Kit.due("two places", x.join(0, 3), -3);
        Kit.due("one twice", x.join(0, 0), -1);
        Kit.due("no first", x.join(2, 0), -1);
        Kit.due("no second", x.join(0, 2), -1);
        Kit.due("below", x.join(-1, 0), -1);
        Kit.due("above", x.join(0, 24), -1);
        Kit.due("-1", x.count(11), 7);
        Kit.due("-3", x.count(13), 2);
    }

    private static void at() {
        HalfHere x = Kit.told("w01,10;p12,6,3,3;kp010,2,0,7;kp10,5,0,8;kt00,0,0,1;");
        Kit.due("at none before", x.at(0, 0), -9);
        Kit.due("at 0 before", x.at(0, 2), 0);
        Kit.due("at 2 before", x.at(0, -1), 2);
        Kit.due("at none before, again", x.at(0, -1), -9);
        Kit.due("at none", x.partOf(0, 3), -9);
        x.at(0, 0);
        Kit.due("elsewhere", x.at(0, 1), -3);
        Kit.due("still at 0", x.at(0, 0), 0);
        Kit.due("no work", x.at(0, 3), -1);
        Kit.due("below none", x.at(0, -2), -1);
        Kit.due("no part", x.at(1, 0), -1);
        Kit.due("no part, no work", x.at(1, -1), -1);
        Kit.due("no time by it", x.partOf(0, 4), 0);
        Kit.due("-1", x.count(11), 4);
        Kit.due("-3", x.count(13), 1);
    }

    private static void toil() {
        HalfHere x = twoPersons();
        Kit.due("at no work", x.toil(1, 10), -3);
        x.at(1, 0);
        x.split(1, 5);
        x.at(2, 0);
        Kit.due("seven twelfths", x.toil(1, 10), 17);
        Kit.due("five twelfths", x.toil(2, 10), 24);
        Kit.due("more, cut each time", x.toil(1, 10), 34);
        Kit.due("clock", x.partOf(1, 4), 20);
        Kit.due("one minute", x.toil(2, 1), 26);
        Kit.due("the longest", x.toil(2, 600), 1466);
        Kit.due("clock, too", x.partOf(2, 4), 611);
        HalfHere thin = Kit.told("p1,1,1,1;kp00,0,0,1;");
        thin.split(0, 1);
        thin.at(1, 0);
        Kit.due("one twelfth", thin.toil(1, 7), 84);
        Kit.due("0", x.toil(1, 0), -4);
        Kit.due("below", x.toil(1, -5), -4);
        Kit.due("601", x.toil(1, 601), -6);
        Kit.due("at no work, 0", x.toil(0, 0), -4);
        Kit.due("at no work, 601", x.toil(0, 601), -6);
        Kit.due("at no work, 600", x.toil(0, 600), -3);
        Kit.due("nobody, 0", x.toil(3, 0), -1);
        Kit.due("still at work", x.partOf(1, 3), 0);
        Kit.due("-3", x.count(13), 2);
        Kit.due("-4", x.count(14), 3);
        Kit.due("-6", x.count(16), 2);
    }

    private static void rest() {
        HalfHere x = twoPersons();
        x.at(0, 0);
        x.toil(0, 100);
        Kit.due("ten", x.rest(0, 10), 80);
        Kit.due("clock", x.partOf(0, 4), 110);
        Kit.due("still at work", x.partOf(0, 3), 0);
        Kit.due("not below 0", x.rest(0, 41), 0);
        Kit.due("clock, too", x.partOf(0, 4), 151);
        Kit.due("at no work", x.rest(1, 600), 0);
        Kit.due("its clock", x.partOf(1, 4), 600);
        Kit.due("0", x.rest(0, 0), -4);
        Kit.due("601", x.rest(0, 601), -6);
        Kit.due("nobody", x.rest(2, 0), -1);
        Kit.due("nobody, 601", x.rest(-1, 601), -1);
        Kit.due("most", x.rest(0, Integer.MAX_VALUE), -6);
        Kit.due("least", x.rest(0, Integer.MIN_VALUE), -4);
        Kit.due("clock as it was", x.partOf(0, 4), 151);
    }

    private static void lose() {
        HalfHere x = twoPersons();
        x.split(0, 5);
        Kit.due("five", x.lose(2), 5);
        Kit.due("seven left", x.person(0, 4), 7);
        Kit.due("no more", x.partOf(2, 1), -1);
        Kit.due("lost already", x.lose(2), -1);
        Kit.due("whole", x.lose(1), 12);
        Kit.due("above", x.lose(24), -1);
        Kit.due("below", x.lose(-1), -1);
        Kit.due("one part", x.count(3), 1);
        Kit.due("its twelfths do not come back", x.split(0, 4), 1);
        Kit.due("3 and 4", x.join(0, 1), 7);
        Kit.due("-1", x.count(11), 4);
        Kit.due("persons stay", x.count(1), 2);
    }

    /** A number that was another's before has nothing of that. */
    private static void numbersAnew() {
        HalfHere x = Kit.told("w01,10;p12,6,3,3;p20,0,9,4;kp110,2,0,7;");
        x.go(1, 1);
        x.see(1);
        x.at(1, 0);
        x.toil(1, 50);
        x.lose(1);
        Kit.tell(x, "p1,1,1,1;");
        int[] due = {2, 12, 0, -9, 0, 0, 0};
        for (int what = 0; what <= 6; what++) {
            Kit.due("anew, " + what, x.partOf(1, what), due[what]);
        }
        x.lose(0);
        Kit.due("nobody at it", x.does(0, 0), 0);
    }
}
