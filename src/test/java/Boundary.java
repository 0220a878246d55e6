import java.io.IOException;
import java.nio.file.Files;
import java.nio.file.Path;
import java.util.Set;
import java.util.TreeSet;
import java.util.regex.Matcher;
import java.util.regex.Pattern;

/**
 * What the tests of boundary cases share: the sentence that is looked at (its promise, its words as they stand in the
 * document), calls just to the boundary and just past it, and that a refused call changes nothing but its count.
 */
final class Boundary {
    /** Calls on a new object that bring it to where the boundary is. */
    interface Story {
        void on(HalfHere x);
    }

    /** One call that is looked at. */
    interface Call {
        long on(HalfHere x);
    }

    private static final long LONG_REFUSAL = 4000000000000000000L;
    private static final int LOOKS = 19;
    private static final String DOCUMENT = document();
    private static final Set<String> REFUSED = new TreeSet<>();
    private static final Set<Integer> NAMED = new TreeSet<>();

    private static int promise = 0;
    private static String words = "";
    private static int toLooked = 1;
    private static int pastLooked = 1;

    private Boundary() {
    }

    private static String oneSpaceApart(String text) {
        return text.replace("```text", " ").replace("```", " ").replaceAll("\\s+", " ").trim();
    }

    private static String document() {
        Path path = Path.of("../shared/DOC.md");
        try {
            if (Files.exists(path)) {
                return oneSpaceApart(Files.readString(path));
            }
        } catch (IOException unreadable) {
            System.out.println(path + " can not be read: " + unreadable);
        }
        System.out.println("no " + path + ": the sentences are not looked up");
        return "";
    }

    /** A test of its own begins: of one sentence, as it stands in the document, that bears on a promise. */
    static void sentence(int number, String quoted) {
        endSentence();
        promise = number;
        words = quoted;
        toLooked = 0;
        pastLooked = 0;
        NAMED.add(number);
        if (!DOCUMENT.isEmpty()) {
            Kit.due(name("stands in the document"), DOCUMENT.contains(oneSpaceApart(quoted)) ? 1 : 0, 1);
        }
    }

    private static void endSentence() {
        Kit.due(name("calls to the boundary"), toLooked > 0 ? 1 : 0, 1);
        Kit.due(name("calls past the boundary"), pastLooked > 0 ? 1 : 0, 1);
    }

    private static String name(String call) {
        return "Promise " + promise + ", \"" + words + "\": " + call;
    }

    /** A call just to the boundary. */
    static void to(String call, long got, long want) {
        toLooked++;
        Kit.due(name(call), got, want);
    }

    /** A call just past the boundary that is answered, not refused. */
    static void past(String call, long got, long want) {
        pastLooked++;
        Kit.due(name(call), got, want);
    }

    /** Letters just to the boundary: a VILLAGE of so many STATEMENTS. */
    static void told(int want, String letters) {
        told(want, x -> { }, letters);
    }

    static void told(int want, Story story, String letters) {
        to("village() of " + letters, Kit.tell(after(story), letters), want);
    }

    /** Letters just past the boundary: the FAULT, with which nothing comes and nothing is counted. */
    static void fault(int want, String letters) {
        fault(want, Boundary::settled, letters);
    }

    static void fault(int want, Story story, String letters) {
        String call = "village() of " + letters;
        past(call, Kit.tell(after(story), letters), want);
        nothingChanged(call, story, x -> Kit.tell(x, letters), 0);
    }

    /** A call just past the boundary that is refused, and changes nothing but how many refusals there were. */
    static void refused(String call, Story story, Call ask, int refusal) {
        past(call, ask.on(after(story)), refusal);
        REFUSED.add(promise + " " + refusal);
        nothingChanged(call, story, ask, refusal);
    }

    /** The same for a call that answers a long. */
    static void refusedLong(String call, Story story, Call ask, int refusal) {
        past(call, ask.on(after(story)), LONG_REFUSAL - refusal);
        REFUSED.add(promise + " " + refusal);
        nothingChanged(call, story, ask, refusal);
    }

    static HalfHere after(Story story) {
        HalfHere x = new HalfHere();
        story.on(x);
        return x;
    }

    /** Two objects with the same story, one with the call more: they show the same, each look on objects of its own. */
    private static void nothingChanged(String call, Story story, Call ask, int refusal) {
        for (int look = 0; look < LOOKS; look++) {
            HalfHere without = after(story);
            HalfHere with = after(story);
            ask.on(with);
            Kit.due(name("nothing changed by " + call + ", look " + look), shown(with, look), shown(without, look));
        }
        for (int kind = 1; kind <= 6; kind++) {
            HalfHere without = after(story);
            HalfHere with = after(story);
            ask.on(with);
            int more = kind == -refusal ? 1 : 0;
            Kit.due(name("count(" + (10 + kind) + ") by " + call), with.count(10 + kind), without.count(10 + kind) + more);
        }
    }

    /** Some of what an object shows, by so few calls that they and the story stay within 512. */
    private static String shown(HalfHere x, int look) {
        switch (look) {
            case 0:
                return toldOf(x);
            case 1:
                return partsOf(x);
            case 2:
                return x.village() + " by the tape:" + toldOf(x);
            case 3:
                return x.on() + " by the image:" + toldOf(x);
            case 4:
                return x.on() + " by the image:" + partsOf(x);
            case 5:
                return plansOf(x);
            case 6:
                return "the row as it is: " + x.judge(0);
            default:
                // With each number more the row's sum shows.
                return "the row with " + (look - 6) + ": " + x.row(look - 6) + " " + x.judge(0);
        }
    }

    private static String toldOf(HalfHere x) {
        StringBuilder all = new StringBuilder();
        for (int what = 0; what <= 6; what++) {
            all.append(' ').append(x.count(what));
        }
        for (int from = 0; from < x.count(0); from++) {
            for (int to = 0; to < from; to++) {
                all.append(' ').append(x.minutes(from, to));
            }
        }
        int persons = x.count(1);
        for (int person = 0; person < persons; person++) {
            for (int what = 0; what <= 5; what++) {
                all.append(' ').append(x.person(person, what));
            }
        }
        int works = x.count(2);
        for (int work = 0; work < works; work++) {
            for (int what = 0; what <= 5; what++) {
                all.append(' ').append(x.work(work, what));
            }
        }
        return all.toString();
    }

    private static String partsOf(HalfHere x) {
        StringBuilder all = new StringBuilder();
        for (int part = 0; part < 24; part++) {
            for (int what = 0; what <= 6; what++) {
                all.append(what == 0 ? '/' : ' ').append(x.partOf(part, what));
            }
        }
        return all.toString();
    }

    private static String plansOf(HalfHere x) {
        StringBuilder all = new StringBuilder();
        all.append(x.best()).append(' ').append(x.must());
        for (int kind = 0; kind <= 3; kind++) {
            all.append(' ').append(x.plan(kind));
        }
        int works = x.count(2);
        int persons = x.count(1);
        for (int work = 0; work < works; work++) {
            all.append('/').append(x.with(work)).append(' ').append(x.well(work, 0)).append(' ').append(x.well(work, 1));
            for (int what = 0; what <= 2; what++) {
                all.append(' ').append(x.does(work, what));
            }
            for (int person = 0; person < persons; person++) {
                all.append(' ').append(x.quarters(person, work)).append(' ').append(x.few(person, work));
            }
        }
        for (int person = 0; person < persons; person++) {
            all.append('/').append(x.together(person, 0)).append(' ').append(x.known(person, 0)).append(' ').append(x.thin(person));
        }
        return all.toString();
    }

    /** Two persons, one in two parts, three works, a place (3) to which there is no way, an image, a row; no letters. */
    static void settled(HalfHere x) {
        Kit.tell(x, "n4;w01,10;w12,7;p12,6,3,3;p20,0,9,4;");
        Kit.tell(x, "kp010,2,0,7;kt15,0,0,8;kw20,0,1,5;");
        x.split(0, 3);
        x.go(2, 1);
        x.see(2);
        x.at(0, 0);
        x.toil(0, 30);
        bustle(x);
    }

    /** The same with letters on the tape. */
    static void busy(HalfHere x) {
        settled(x);
        feedAll(x, "n5;");
    }

    /** An image that is no longer what is, and a row. */
    static void bustle(HalfHere x) {
        x.image();
        x.rest(0, 1);
        x.row(5);
        x.row(4);
    }

    static void feedAll(HalfHere x, String letters) {
        for (int i = 0; i < letters.length(); i++) {
            x.feed(letters.charAt(i));
        }
    }

    /** That each promise is named, and each refusal that a promise tells is looked at under its number. */
    static void end() {
        endSentence();
        for (int number = 1; number <= 33; number++) {
            Kit.due("promise " + number + " has a test of its boundaries", NAMED.contains(number) ? 1 : 0, 1);
        }
        Matcher matcher = Pattern.compile("## Promise (\\d+): \\w[\\w ]* `[^`]*`:(.*?)(?=## )").matcher(DOCUMENT);
        int found = 0;
        while (matcher.find()) {
            int number = Integer.parseInt(matcher.group(1));
            Matcher refusal = Pattern.compile("-[1-6]\\b").matcher(matcher.group(2));
            // COUNT names the refusals only to tell how many there were.
            while (number != 33 && refusal.find()) {
                String one = number + " " + refusal.group();
                Kit.due("promise " + one + " is looked at", REFUSED.contains(one) ? 1 : 0, 1);
            }
            found++;
        }
        if (!DOCUMENT.isEmpty()) {
            Kit.due("promises found in the document", found, 33);
        }
    }
}
