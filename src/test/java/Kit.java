/** What the tests share: how an answer is looked at, how a village is told. */
final class Kit {
    private static int passed = 0;
    private static int failed = 0;

    private Kit() {
    }

    static void due(String call, long got, long want) {
        if (got == want) {
            passed++;
        } else {
            failed++;
            System.out.println(call + " answered " + got + ", due is " + want);
        }
    }

    static void due(String call, String got, String want) {
        if (got.equals(want)) {
            passed++;
        } else {
            failed++;
            System.out.println(call + " answered " + got + ", due is " + want);
        }
    }

    static int tell(HalfHere x, String letters) {
        for (int i = 0; i < letters.length(); i++) {
            x.feed(letters.charAt(i));
        }
        return x.village();
    }

    /** A new object with all of these told, one after another. */
    static HalfHere told(String... villages) {
        HalfHere x = new HalfHere();
        for (String village : villages) {
            int answer = tell(x, village);
            if (answer < 1) {
                due("village() of " + village, answer, 1);
            }
        }
        return x;
    }

    /** All that an object shows but its refusals, by calls that refuse nothing. */
    static String shown(HalfHere x) {
        StringBuilder all = new StringBuilder();
        for (int what = 0; what <= 6; what++) {
            all.append(' ').append(x.count(what));
        }
        showTold(x, all);
        for (int part = 0; part < 24; part++) {
            int before = x.count(11);
            if (x.partOf(part, 0) >= 0) {
                all.append(" part").append(part);
                for (int what = 0; what <= 6; what++) {
                    all.append(' ').append(x.partOf(part, what));
                }
            } else if (x.count(11) != before + 1) {
                all.append(" not counted ").append(part);
            }
        }
        return all.toString();
    }

    private static void showTold(HalfHere x, StringBuilder all) {
        for (int from = 0; from < x.count(0); from++) {
            for (int to = 0; to < x.count(0); to++) {
                all.append(' ').append(x.minutes(from, to));
            }
        }
        for (int person = 0; person < x.count(1); person++) {
            for (int what = 0; what <= 5; what++) {
                all.append(' ').append(x.person(person, what));
            }
        }
        for (int work = 0; work < x.count(2); work++) {
            for (int what = 0; what <= 5; what++) {
                all.append(' ').append(x.work(work, what));
            }
            for (int what = 0; what <= 2; what++) {
                all.append(' ').append(x.does(work, what));
            }
        }
    }

    static void end(String name) {
        System.out.println(name + ": " + passed + " answers as due, " + failed + " not");
        if (failed != 0 || passed == 0) {
            System.exit(1);
        }
    }
}
