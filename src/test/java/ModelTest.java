import java.util.Random;

/** Long runs of calls, by fixed seeds, looked at against the model. */
public final class ModelTest {
    private static final int RUNS = 400;
    private static final int CALLS = 512;
    private static final int[] ODD = {-1, -2, 6, 7, 24, 100, 601, Integer.MIN_VALUE, Integer.MAX_VALUE};

    private final Random random;
    private final HalfHere x = new HalfHere();
    private final Model model = new Model();
    private final String name;
    private int calls = 0;

    private ModelTest(int seed) {
        random = new Random(seed);
        name = "seed " + seed;
    }

    public static void main(String[] args) {
        for (int seed = 0; seed < RUNS; seed++) {
            new ModelTest(seed).run(seed);
        }
        Kit.end("ModelTest");
    }

    private void run(int seed) {
        // Some runs stay small, so that BEST has its three and three, some fill up.
        boolean isSmall = seed % 2 == 0;
        tell(opening(isSmall));
        while (calls < CALLS - 70) {
            int which = random.nextInt(60);
            if (which < (isSmall ? 1 : 2)) {
                tell(someLetters());
            } else if (which < 35) {
                movePart();
            } else {
                ask();
            }
        }
        for (int what = 0; what <= 6; what++) {
            due("count", model.count(what), x.count(what), what);
        }
        for (int what = 11; what <= 16; what++) {
            due("count", model.count(what), x.count(what), what);
        }
    }

    private void due(String call, long want, long got, int... arguments) {
        calls++;
        StringBuilder all = new StringBuilder(name).append(", call ").append(calls).append(": ").append(call);
        for (int argument : arguments) {
            all.append(' ').append(argument);
        }
        Kit.due(all.toString(), got, want);
    }

    private int below(int bound) {
        return random.nextInt(40) == 0 ? ODD[random.nextInt(ODD.length)] : random.nextInt(bound);
    }

    /** One that is there more often than not. */
    private int aPerson() {
        return below(Math.max(1, model.count(1)) + (random.nextInt(20) == 0 ? 1 : 0));
    }

    private int aWork() {
        return below(Math.max(1, model.count(2)) + (random.nextInt(20) == 0 ? 1 : 0));
    }

    private int aPart() {
        return below(Math.min(24, model.count(3) + 2));
    }

    private int aPlace() {
        return below(model.count(0) + (random.nextInt(20) == 0 ? 1 : 0));
    }

    private void tell(String letters) {
        for (int i = 0; i < letters.length(); i++) {
            due("feed", model.feed(letters.charAt(i)), x.feed(letters.charAt(i)), letters.charAt(i));
        }
        due("village of " + letters, model.village(), x.village());
    }

    private String opening(boolean isSmall) {
        StringBuilder all = new StringBuilder("n").append(3 + random.nextInt(4)).append(";w01,9;w12,").append(1 + random.nextInt(60))
            .append(';');
        for (int i = 0; i < (isSmall ? 2 : 3); i++) {
            all.append(aPersonTold());
        }
        all.append(aWorkTold());
        while (all.length() > 64) {
            all.setLength(all.lastIndexOf(";", all.length() - 2) + 1);
        }
        return all.toString();
    }

    private String aPersonTold() {
        return "p" + few(60) + "," + few(60) + "," + few(60) + "," + (1 + random.nextInt(random.nextBoolean() ? 3 : 12)) + ";";
    }

    private String aWorkTold() {
        return "k" + "pwltsh".charAt(random.nextInt(6)) + random.nextInt(3) + few(90) + "," + few(60) + "," + few(30) + ","
            + random.nextInt(20) + ";";
    }

    /** Often 0. */
    private int few(int most) {
        return random.nextInt(3) == 0 ? 0 : random.nextInt(random.nextInt(most) + 1);
    }

    private String someLetters() {
        StringBuilder all = new StringBuilder();
        int statements = 1 + random.nextInt(3);
        for (int i = 0; i < statements; i++) {
            switch (random.nextInt(6)) {
                case 0:
                    all.append('n').append(random.nextInt(10)).append(';');
                    break;
                case 1:
                case 2:
                    all.append('w').append(random.nextInt(6)).append(random.nextInt(6)).append(',').append(random.nextInt(70)).append(';');
                    break;
                case 3:
                    all.append(aPersonTold());
                    break;
                default:
                    all.append(aWorkTold());
                    break;
            }
        }
        if (random.nextInt(3) == 0) {
            int place = random.nextInt(all.length());
            all.setCharAt(place, "nwpkpwltsh;,0123456789x".charAt(random.nextInt(23)));
        }
        if (random.nextInt(12) == 0) {
            all.deleteCharAt(random.nextInt(all.length()));
        }
        return all.toString();
    }

    private void movePart() {
        int part = aPart();
        int other = aPart();
        int place = aPlace();
        int work = aWork();
        int m = below(random.nextInt(4) == 0 ? 601 : 40);
        switch (random.nextInt(12)) {
            case 0:
            case 1:
                int twelfths = below(8);
                due("split", model.split(part, twelfths), x.split(part, twelfths), part, twelfths);
                break;
            case 2:
            case 3:
                due("go", model.go(part, place), x.go(part, place), part, place);
                break;
            case 4:
                due("see", model.see(part), x.see(part), part);
                break;
            case 5:
                due("join", model.join(part, other), x.join(part, other), part, other);
                break;
            case 6:
            case 7:
            case 8:
                int which = random.nextInt(9) == 0 ? -1 : work;
                due("at", model.at(part, which), x.at(part, which), part, which);
                break;
            case 9:
                due("toil", model.toil(part, m), x.toil(part, m), part, m);
                break;
            case 10:
                due("rest", model.rest(part, m), x.rest(part, m), part, m);
                break;
            default:
                if (random.nextInt(4) == 0) {
                    due("lose", model.lose(part), x.lose(part), part);
                }
                break;
        }
    }

    private void ask() {
        if (random.nextBoolean()) {
            askOfWhatIs();
        } else {
            askOfPlans();
        }
    }

    private void askOfWhatIs() {
        int what = below(7);
        int two = below(2);
        switch (random.nextInt(14)) {
            case 0:
                int person = aPerson();
                due("person", model.person(person, what), x.person(person, what), person, what);
                break;
            case 1:
                int work = aWork();
                due("work", model.work(work, what), x.work(work, what), work, what);
                break;
            case 2:
                int from = aPlace();
                int to = aPlace();
                due("minutes", model.minutes(from, to), x.minutes(from, to), from, to);
                break;
            case 3:
            case 4:
                int part = aPart();
                due("partOf", model.partOf(part, what), x.partOf(part, what), part, what);
                break;
            case 5:
            case 6:
                int done = aWork();
                int gift = below(3);
                due("does", model.does(done, gift), x.does(done, gift), done, gift);
                break;
            case 7:
            case 8:
                int one = aWork();
                due("well", model.well(one, two), x.well(one, two), one, two);
                break;
            case 9:
                int v = below(random.nextInt(3) == 0 ? 100 : 5);
                due("row", model.row(v), x.row(v), v);
                break;
            case 10:
                int judged = aPerson();
                if (random.nextInt(3) == 0) {
                    due("judge", model.judge(judged), x.judge(judged), judged);
                }
                break;
            case 11:
                if (random.nextInt(3) == 0) {
                    due("image", model.image(), x.image());
                } else if (random.nextInt(4) == 0) {
                    due("on", model.on(), x.on());
                }
                break;
            default:
                int count = random.nextInt(19) - 1;
                due("count", model.count(count), x.count(count), count);
                break;
        }
    }

    private void askOfPlans() {
        int person = aPerson();
        int work = aWork();
        int kind = below(4);
        int two = below(2);
        int part = below(2);
        switch (random.nextInt(14)) {
            case 0:
            case 1:
                due("plan", model.plan(kind), x.plan(kind), kind);
                break;
            case 2:
            case 3:
            case 4:
                due("planned", model.planned(kind, person, work), x.planned(kind, person, work), kind, person, work);
                break;
            case 5:
                if (random.nextInt(6) == 0) {
                    due("best", model.best(), x.best());
                } else if (random.nextInt(4) == 0) {
                    due("quarters", model.quarters(person, work), x.quarters(person, work), person, work);
                }
                break;
            case 6:
                due("must", model.must(), x.must());
                break;
            case 7:
                due("with", model.with(work), x.with(work), work);
                break;
            case 8:
                due("thin", model.thin(person), x.thin(person), person);
                break;
            case 9:
                due("few", model.few(person, work), x.few(person, work), person, work);
                break;
            case 10:
            case 11:
                int hundredths = below(101);
                due("chance", model.chance(person, hundredths, two, part), x.chance(person, hundredths, two, part),
                    person, hundredths, two, part);
                break;
            case 12:
                due("together", model.together(person, two), x.together(person, two), person, two);
                break;
            default:
                due("known", model.known(person, two), x.known(person, two), person, two);
                break;
        }
    }
}
