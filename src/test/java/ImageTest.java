/** Promises 31 to 33: image, on, count. */
public final class ImageTest {
    private ImageTest() {
    }

    public static void main(String[] args) {
        image();
        onAgain();
        notInTheImage();
        noImage();
        count();
        refusals();
        refusalsChangeNothing();
        Kit.end("ImageTest");
    }

    private static HalfHere busy() {
        HalfHere x = Kit.told("n4;w01,10;w12,20;p12,6,3,3;p20,0,9,4;", "kp01,0,0,7;kt15,0,0,8;");
        x.split(0, 5);
        x.at(0, 0);
        x.toil(0, 30);
        x.go(2, 1);
        x.see(2);
        return x;
    }

    private static void image() {
        String before = Kit.shown(busy());
        HalfHere taken = busy();
        taken.image();
        Kit.due("nothing by it", Kit.shown(taken), before);
        HalfHere x = busy();
        Kit.due("three parts", x.image(), 3);
        Kit.tell(x, "n6;w01,3;w35,60;p1,2,3,4;kh59,9,9,9;");
        x.toil(0, 60);
        x.go(0, 5);
        x.see(0);
        x.lose(2);
        x.split(1, 4);
        Kit.due("three parts on", x.on(), 3);
        Kit.due("as then", Kit.shown(x), before);
        Kit.due("as then: no way to 3", x.minutes(0, 3), -9);
        Kit.due("as then: no place 4", x.minutes(0, 4), -1);
        Kit.due("as then: a number is free", x.split(1, 4), 3);
        Kit.due("four parts", x.image(), 4);
        x.lose(0);
        x.lose(1);
        Kit.due("four parts on", x.on(), 4);
        x.lose(0);
        x.lose(1);
        x.lose(2);
        x.lose(3);
        Kit.due("no parts", x.image(), 0);
        Kit.tell(x, "p1,2,3,4;");
        Kit.due("no parts on", x.on(), 0);
        Kit.due("two persons", x.count(1), 2);
    }

    private static void onAgain() {
        String before = Kit.shown(busy());
        for (int times = 1; times <= 3; times++) {
            HalfHere x = busy();
            x.image();
            for (int i = 0; i < times; i++) {
                x.lose(i);
                x.toil(0, 9);
                Kit.tell(x, "n5;p9,9,9,9;kp29,9,9,9;");
                Kit.due("on", x.on(), 3);
            }
            Kit.due("as then, " + times + " times", Kit.shown(x), before);
            x.rest(0, 100);
            x.on();
            Kit.due("the image does not go on with it", Kit.shown(x), before);
        }
        HalfHere empty = new HalfHere();
        empty.image();
        Kit.tell(empty, "n6;w01,1;p1,1,1,1;kp00,0,0,0;");
        Kit.due("nobody", empty.on(), 0);
        Kit.due("three places", empty.count(0), 3);
        Kit.due("no persons", empty.count(1), 0);
        Kit.due("no works", empty.count(2), 0);
        Kit.due("no way", empty.minutes(0, 1), -9);
        Kit.tell(empty, "n1;p5,5,5,5;");
        Kit.due("fewer places", empty.count(0), 1);
        Kit.due("a person anew", empty.person(0, 3), 5);
    }

    private static void notInTheImage() {
        HalfHere x = busy();
        x.row(5);
        x.feed('n');
        x.see(9);
        x.image();
        x.row(6);
        x.feed('5');
        x.see(9);
        x.on();
        Kit.due("the row goes on", x.count(5), 2);
        Kit.due("the letters go on", x.count(6), 2);
        Kit.due("refusals go on", x.count(11), 2);
        x.feed(';');
        Kit.due("a village over it", x.village(), 1);
        Kit.due("five places", x.count(0), 5);
        Kit.due("the row over it", x.judge(0), 2);
    }

    private static void noImage() {
        HalfHere x = busy();
        String before = Kit.shown(x);
        int refused = x.count(13);
        Kit.due("there is none", x.on(), -3);
        Kit.due("still none", x.on(), -3);
        Kit.due("all as before", Kit.shown(x), before);
        Kit.due("counted", x.count(13), refused + 2);
    }

    private static void count() {
        HalfHere x = busy();
        x.row(4);
        x.row(4);
        for (int i = 0; i < 5; i++) {
            x.feed('x');
        }
        int[] due = {4, 2, 2, 3, 1, 2, 5};
        for (int what = 0; what < due.length; what++) {
            Kit.due("count(" + what + ")", x.count(what), due[what]);
        }
        int[] others = {-1, 7, 8, 9, 10, 17, 18, -11, -9, 100, Integer.MIN_VALUE, Integer.MAX_VALUE};
        for (int what : others) {
            Kit.due("count(" + what + ")", x.count(what), -9);
        }
        for (int what = 11; what <= 16; what++) {
            Kit.due("none refused, count(" + what + ")", x.count(what), 0);
        }
        x.at(0, -1);
        Kit.due("not done without it", x.count(4), 0);
        x.at(0, 0);
        Kit.due("done with it", x.count(4), 1);
    }

    private static void refusals() {
        HalfHere x = busy();
        x.see(9);
        x.person(9, 0);
        x.person(0, 9);
        x.on();
        x.toil(1, 5);
        x.join(0, 1);
        x.row(-5);
        x.row(100);
        x.feed(256);
        int[] due = {2, 1, 3, 1, 0, 2};
        for (int what = 11; what <= 16; what++) {
            Kit.due("count(" + what + ")", x.count(what), due[what - 11]);
        }
        x.minutes(0, 3);
        x.must();
        x.partOf(1, 3);
        x.judge(0);
        x.count(77);
        x.village();
        for (int what = 11; what <= 16; what++) {
            Kit.due("-9 and faults are not counted, count(" + what + ")", x.count(what), due[what - 11]);
        }
    }

    private static int refusalsOf(HalfHere x) {
        int sum = 0;
        for (int what = 11; what <= 16; what++) {
            sum += x.count(what);
        }
        return sum;
    }

    private static void refusalsChangeNothing() {
        HalfHere x = busy();
        x.go(1, 2);
        x.row(4);
        x.feed('n');
        String before = Kit.shown(x);
        int refused = refusalsOf(x);
        long[] answers = {
            x.feed(-1), x.feed(256), x.person(2, 0), x.person(0, 6), x.work(2, 0), x.work(0, 6), x.minutes(4, 0),
            x.partOf(3, 0), x.partOf(0, 7), x.split(3, 3), x.split(0, 2), x.go(3, 0), x.go(0, 4), x.go(0, 3), x.see(3),
            x.join(0, 0), x.join(0, 1), x.join(0, 2), x.at(0, 2), x.at(0, 1), x.toil(0, 0), x.toil(0, 601), x.toil(1, 5),
            x.rest(0, 0), x.rest(0, 601), x.lose(3), x.does(2, 0), x.does(0, 3), x.well(2, 0), x.well(0, 2), x.plan(4),
            x.planned(4, 0, 0), x.planned(0, 2, 0), x.quarters(2, 0), x.with(2), x.with(0), x.thin(2), x.few(2, 0),
            x.few(0, 1), x.together(2, 0), x.together(0, 2), x.known(2, 0), x.known(0, 2), x.row(-1), x.row(100),
            x.judge(2), x.on(),
        };
        int[] due = {
            -4, -6, -1, -2, -1, -2, -1,
            -1, -2, -1, -3, -1, -1, -3, -1,
            -1, -3, -3, -1, -3, -4, -6, -3,
            -4, -6, -1, -1, -2, -1, -2, -2,
            -2, -1, -1, -1, -2, -1, -1,
            -2, -1, -2, -1, -2, -4, -6,
            -1, -3,
        };
        for (int i = 0; i < due.length; i++) {
            Kit.due("refusal no. " + i, answers[i], due[i]);
        }
        Kit.due("each counted once", refusalsOf(x) - refused, due.length);
        Kit.due("all as before", Kit.shown(x), before);
    }
}
