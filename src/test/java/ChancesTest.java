/** Promises 26 to 30: chance, together, known, row, judge. */
public final class ChancesTest {
    private static final long NOBODY = 4000000000000000001L;
    private static final long OTHER = 4000000000000000002L;
    private static final long STATE = 4000000000000000003L;
    private static final long BELOW = 4000000000000000004L;
    private static final long ROOM = 4000000000000000006L;

    private ChancesTest() {
    }

    public static void main(String[] args) {
        mean();
        allLeft();
        ninePartsAway();
        chanceRefused();
        together();
        togetherTies();
        togetherRefused();
        known();
        row();
        judge();
        judgeEdges();
        Kit.end("ChancesTest");
    }

    private static void chance(HalfHere x, String when, int hundredths, int what, long above, long below) {
        Kit.due(when + ", above", x.chance(0, hundredths, what, 0), above);
        Kit.due(when + ", below", x.chance(0, hundredths, what, 1), below);
    }

    /** Person 0 with 5 at PLACE 0, 3 and 4 elsewhere; person 1 whole elsewhere. */
    private static HalfHere three() {
        HalfHere x = Kit.told("w01,10;w12,10;p1,1,1,2;p1,1,1,1;");
        x.split(0, 3);
        x.split(0, 4);
        x.go(2, 1);
        x.go(3, 2);
        x.go(1, 2);
        return x;
    }

    private static void mean() {
        HalfHere x = three();
        chance(x, "mean at 0", 0, 0, 12, 1);
        chance(x, "mean at 100", 100, 0, 5, 1);
        chance(x, "mean at 50", 50, 0, 17, 2);
        chance(x, "mean at 1", 1, 0, 1193, 100);
        chance(x, "mean at 10", 10, 0, 113, 10);
        x.lose(2);
        chance(x, "mean of what is left", 25, 0, 8, 1);
        x.lose(0);
        chance(x, "mean of what is elsewhere", 100, 0, 0, 1);
        chance(x, "mean of what is elsewhere, 99", 99, 0, 1, 25);
    }

    private static void allLeft() {
        HalfHere x = three();
        chance(x, "all at 0", 0, 1, 1, 1);
        chance(x, "all at 100", 100, 1, 0, 1);
        chance(x, "all at 50", 50, 1, 1, 4);
        chance(x, "all at 1", 1, 1, 9801, 10000);
        chance(x, "all at 40", 40, 1, 9, 25);
        x.lose(2);
        chance(x, "one elsewhere", 40, 1, 3, 5);
        x.go(3, 0);
        chance(x, "none elsewhere", 100, 1, 1, 1);
        chance(x, "none elsewhere, mean", 100, 0, 9, 1);
    }

    private static void ninePartsAway() {
        HalfHere x = Kit.told("w01,10;p1,1,1,1;p1,1,1,1;");
        for (int i = 0; i < 10; i++) {
            x.split(0, 1);
        }
        for (int part = 2; part <= 10; part++) {
            x.go(part, 1);
        }
        x.go(1, 1);
        chance(x, "nine at 1", 1, 1, 913517247483640899L, 1000000000000000000L);
        chance(x, "nine at 99", 99, 1, 1, 1000000000000000000L);
        chance(x, "nine at 98", 98, 1, 1, 1953125000000000L);
        chance(x, "nine at 1, mean", 1, 0, 1191, 100);
        x.go(11, 1);
        Kit.due("ten", x.chance(0, 1, 1, 0), ROOM);
        Kit.due("ten, mean", x.chance(0, 1, 0, 0), ROOM);
        Kit.due("ten, all surely left", x.chance(0, 0, 0, 0), ROOM);
        Kit.due("the other person", x.chance(1, 1, 1, 0), 99);
    }

    private static void chanceRefused() {
        HalfHere x = three();
        x.lose(1);
        Kit.due("nobody", x.chance(2, -1, 2, 2), NOBODY);
        Kit.due("below", x.chance(-1, 101, 2, 2), NOBODY);
        Kit.due("what", x.chance(0, -1, 2, 0), OTHER);
        Kit.due("what below", x.chance(0, 101, -1, 0), OTHER);
        Kit.due("part", x.chance(0, -1, 0, 2), OTHER);
        Kit.due("part below", x.chance(1, 5, 0, -1), OTHER);
        Kit.due("hundredths below", x.chance(1, -1, 0, 0), BELOW);
        Kit.due("hundredths above", x.chance(1, 101, 0, 0), ROOM);
        Kit.due("nothing left", x.chance(1, 100, 0, 0), STATE);
        int[] due = {2, 4, 1, 1, 0, 1};
        for (int what = 11; what <= 16; what++) {
            Kit.due("count(" + what + ")", x.count(what), due[what - 11]);
        }
    }

    private static void together() {
        HalfHere x = Kit.told("n6;w01,10;w12,20;w23,30;w04,60;p1,1,1,1;p1,1,1,1;");
        Kit.due("one part", x.together(0, 0), 0);
        Kit.due("one part, place", x.together(0, 1), 0);
        x.go(1, 3);
        Kit.due("one part elsewhere", x.together(1, 0), 60);
        Kit.due("one part elsewhere, place", x.together(1, 1), 3);
        x.split(0, 4);
        x.split(0, 4);
        x.go(2, 2);
        Kit.due("0 at 0, 0 at 0, 30 at 2", x.together(0, 0), 30);
        Kit.due("place", x.together(0, 1), 2);
        x.go(3, 4);
        Kit.due("0 at 0, 30 at 2, 60 at 4", x.together(0, 0), 120);
        Kit.due("0 and 4 at 120", x.together(0, 1), 0);
        x.rest(0, 200);
        Kit.due("200 at 0, 30 at 2, 60 at 4", x.together(0, 0), 200);
        Kit.due("place 0", x.together(0, 1), 0);
        x.lose(0);
        Kit.due("30 at 2, 60 at 4", x.together(0, 0), 120);
        Kit.due("place", x.together(0, 1), 0);
    }

    private static void togetherTies() {
        HalfHere x = Kit.told("n4;w12,10;w20,10;w03,10;p1,1,1,1;");
        x.split(0, 6);
        x.go(1, 2);
        x.rest(0, 10);
        // 10 at 0, 10 at 2: either at 20.
        Kit.due("a tie", x.together(0, 0), 20);
        Kit.due("the least place", x.together(0, 1), 0);
        x.rest(0, 10);
        Kit.due("20 at 0", x.together(0, 0), 20);
        Kit.due("there", x.together(0, 1), 0);
        x.rest(1, 15);
        Kit.due("25 at 2", x.together(0, 0), 30);
        Kit.due("by the later", x.together(0, 1), 2);
        x.go(0, 1);
        Kit.due("40 at 1, 25 at 2", x.together(0, 0), 40);
        Kit.due("there, too", x.together(0, 1), 1);
        x.go(1, 1);
        Kit.due("both at 1", x.together(0, 0), 40);
        Kit.due("they are", x.together(0, 1), 1);
    }

    private static void togetherRefused() {
        HalfHere x = Kit.told("p1,1,1,1;");
        Kit.due("nobody", x.together(1, 2), -1);
        Kit.due("below", x.together(-1, 0), -1);
        Kit.due("what", x.together(0, 2), -2);
        Kit.due("what below", x.together(0, -1), -2);
        x.lose(0);
        Kit.due("what, nothing left", x.together(0, 2), -2);
        Kit.due("nothing left", x.together(0, 1), -3);
        Kit.due("known: nobody", x.known(1, 2), -1);
        Kit.due("known: below", x.known(-1, 0), -1);
        Kit.due("known: what", x.known(0, 2), -2);
        Kit.due("known: what below", x.known(0, -1), -2);
        Kit.due("known: nothing left", x.known(0, 0), -3);
        int[] due = {4, 5, 2, 0, 0, 0};
        for (int what = 11; what <= 16; what++) {
            Kit.due("count(" + what + ")", x.count(what), due[what - 11]);
        }
    }

    private static void known() {
        HalfHere x = Kit.told("n6;w01,1;w12,1;w35,1;w23,1;p1,1,1,1;p1,1,1,1;");
        Kit.due("nothing", x.known(0, 0), 0);
        Kit.due("nothing by all", x.known(0, 1), 0);
        x.see(0);
        x.split(0, 4);
        x.go(2, 2);
        x.see(2);
        x.go(0, 5);
        x.see(0);
        x.go(1, 1);
        x.see(1);
        Kit.due("by some", x.known(0, 0), 37);
        Kit.due("by all", x.known(0, 1), 1);
        Kit.due("the other by some", x.known(1, 0), 2);
        Kit.due("the other by all", x.known(1, 1), 2);
        x.lose(0);
        Kit.due("by one", x.known(0, 0), 5);
        Kit.due("by that all", x.known(0, 1), 5);
    }

    private static void row() {
        HalfHere x = Kit.told("p1,1,1,1;");
        Kit.due("row(0)", x.row(0), 1);
        Kit.due("row(99)", x.row(99), 2);
        Kit.due("row(-1)", x.row(-1), -4);
        Kit.due("row(100)", x.row(100), -6);
        Kit.due("row least", x.row(Integer.MIN_VALUE), -4);
        Kit.due("row most", x.row(Integer.MAX_VALUE), -6);
        Kit.due("two", x.count(5), 2);
        for (int i = 3; i <= 12; i++) {
            Kit.due("row no. " + i, x.row(1), i);
        }
        Kit.due("a thirteenth", x.row(1), -6);
        Kit.due("a thirteenth, below", x.row(-1), -4);
        Kit.due("twelve", x.count(5), 12);
        Kit.due("-4", x.count(14), 3);
        Kit.due("-6", x.count(16), 3);
    }

    private static void judge(String when, int least, int due, int... row) {
        HalfHere x = Kit.told("p1,1,1,1;p1,1,1," + least + ";");
        for (int v : row) {
            x.row(v);
        }
        Kit.due("judge: " + when, x.judge(1), due);
        Kit.due("judge: " + when + ", none then", x.count(5), 0);
    }

    private static void judge() {
        judge("none", 1, 0);
        judge("twelve", 12, -9, 12);
        judge("above", 12, 0, 13);
        judge("below least", 4, 1, 4, 3, 5);
        judge("the sum above", 4, 2, 4, 4, 5);
        judge("the sum is twelve", 4, -9, 4, 4, 4);
        judge("too few", 4, 2, 4, 7);
        judge("one too few", 4, 1, 11);
        judge("more behind twelve", 1, 2, 6, 6, 1);
        judge("0", 1, 1, 12, 0);
        judge("0 first", 1, 0, 0, 12);
        judge("twelve ones", 1, -9, 1, 1, 1, 1, 1, 1, 1, 1, 1, 1, 1, 1);
        judge("eleven ones", 1, 11, 1, 1, 1, 1, 1, 1, 1, 1, 1, 1, 1);
        judge("99", 1, 0, 99, 0);
        judge("below ahead of above", 4, 0, 3, 99);
        judge("above ahead of below", 4, 1, 4, 99, 3);
    }

    private static void judgeEdges() {
        HalfHere x = Kit.told("p1,1,1,3;");
        x.row(5);
        Kit.due("nobody", x.judge(1), -1);
        Kit.due("nobody below", x.judge(-1), -1);
        Kit.due("it stays", x.count(5), 1);
        x.row(7);
        Kit.due("just so", x.judge(0), -9);
        Kit.due("none then", x.count(5), 0);
        x.row(3);
        x.lose(0);
        Kit.due("nothing left of the person", x.judge(0), 1);
        Kit.due("-1", x.count(11), 2);
    }
}
