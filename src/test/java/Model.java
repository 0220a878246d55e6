import java.math.BigInteger;
import java.util.ArrayList;
import java.util.List;
import java.util.TreeMap;
import java.util.regex.Matcher;
import java.util.regex.Pattern;

/**
 * The document told a second time, by other means (lists, patterns, fractions, trying all out), so
 * that long runs of calls can be looked at against it. It is slow, and made for tests alone.
 */
final class Model {
    private static final String NUMBER2 = "[0-9]{1,2}";
    private static final String NUMBER3 = "[0-9]{1,3}";
    private static final String STATEMENT = "(?:n[0-9];|w[0-9][0-9]," + NUMBER2 + ";|p" + NUMBER2 + "," + NUMBER2 + ","
        + NUMBER2 + "," + NUMBER2 + ";|k[pwltsh][0-9]" + NUMBER3 + "," + NUMBER3 + "," + NUMBER3 + "," + NUMBER2 + ";)";
    private static final Pattern VILLAGE = Pattern.compile(STATEMENT + "+");
    private static final Pattern ONE = Pattern.compile(STATEMENT);

    private record Person(int[] gifts, int least) {
    }

    private record Work(char kind, int place, int[] needs, int worth) {
    }

    private record Part(int person, int twelfths, int place, int work, int clock, int tired, int seen) {
        Part with(String field, int value) {
            return new Part(person, field.equals("twelfths") ? value : twelfths, field.equals("place") ? value : place,
                field.equals("work") ? value : work, field.equals("clock") ? value : clock,
                field.equals("tired") ? value : tired, field.equals("seen") ? value : seen);
        }
    }

    /** A part in mind: of a person, so many twelfths, that gives or is only there. */
    private record Help(int person, int twelfths, int tired, boolean gives) {
    }

    private static final class Told {
        int places = 3;
        List<Person> persons = new ArrayList<>();
        List<Work> works = new ArrayList<>();
        TreeMap<String, Integer> ways = new TreeMap<>();
        TreeMap<Integer, Part> parts = new TreeMap<>();

        Told copy() {
            Told other = new Told();
            other.places = places;
            other.persons.addAll(persons);
            other.works.addAll(works);
            other.ways.putAll(ways);
            other.parts.putAll(parts);
            return other;
        }
    }

    private Told told = new Told();
    private Told kept = null;
    private StringBuilder letters = new StringBuilder();
    private List<Integer> row = new ArrayList<>();
    private final int[] refused = new int[20];

    private int refuse(int number) {
        refused[-number]++;
        return number;
    }

    private boolean noPerson(int person) {
        return person < 0 || person >= told.persons.size();
    }

    private boolean noWork(int work) {
        return work < 0 || work >= told.works.size();
    }

    private boolean noPlace(int place) {
        return place < 0 || place >= told.places;
    }

    private boolean noPart(int part) {
        return !told.parts.containsKey(part);
    }

    private static boolean out(int value, int least, int most) {
        return value < least || value > most;
    }

    int feed(int letter) {
        if (letter < 0) {
            return refuse(-4);
        }
        if (letter > 255 || letters.length() == 64) {
            return refuse(-6);
        }
        letters.append((char) letter);
        return letters.length();
    }

    int village() {
        String all = letters.toString();
        letters.setLength(0);
        if (!VILLAGE.matcher(all).matches()) {
            for (int i = 1; i <= all.length(); i++) {
                Matcher matcher = VILLAGE.matcher(all.substring(0, i));
                if (!matcher.matches() && !matcher.hitEnd()) {
                    return -1000 - (i - 1);
                }
            }
            return -1000 - all.length();
        }
        Told trial = told.copy();
        Matcher matcher = ONE.matcher(all);
        int count = 0;
        while (matcher.find()) {
            if (!tell(trial, matcher.group())) {
                return -2000 - matcher.start();
            }
            count++;
        }
        told = trial;
        return count;
    }

    private static int[] numbers(String from) {
        String[] words = from.replace(";", "").split(",");
        int[] numbers = new int[words.length];
        for (int i = 0; i < words.length; i++) {
            numbers[i] = Integer.parseInt(words[i]);
        }
        return numbers;
    }

    private static boolean tell(Told to, String statement) {
        switch (statement.charAt(0)) {
            case 'n':
                return tellPlaces(to, statement.charAt(1) - '0');
            case 'w':
                int one = statement.charAt(1) - '0';
                int other = statement.charAt(2) - '0';
                int minutes = numbers(statement.substring(4))[0];
                if (one >= to.places || other >= to.places || one == other || out(minutes, 1, 60)) {
                    return false;
                }
                to.ways.put(Math.min(one, other) + "" + Math.max(one, other), minutes);
                return true;
            case 'p':
                return tellPerson(to, numbers(statement.substring(1)));
            default:
                int place = statement.charAt(2) - '0';
                int[] said = numbers(statement.substring(3));
                if (place >= to.places || to.works.size() == 6 || said[0] > 200 || said[1] > 200 || said[2] > 200) {
                    return false;
                }
                to.works.add(new Work(statement.charAt(1), place, new int[] {said[0], said[1], said[2]}, said[3]));
                return true;
        }
    }

    private static boolean tellPlaces(Told to, int count) {
        if (out(count, 1, 6)) {
            return false;
        }
        for (String way : to.ways.keySet()) {
            if (way.charAt(1) - '0' >= count) {
                return false;
            }
        }
        for (Work work : to.works) {
            if (work.place >= count) {
                return false;
            }
        }
        for (Part part : to.parts.values()) {
            if (part.place >= count) {
                return false;
            }
        }
        to.places = count;
        return true;
    }

    private static boolean tellPerson(Told to, int[] said) {
        if (said[0] > 60 || said[1] > 60 || said[2] > 60 || out(said[3], 1, 12) || to.persons.size() == 6
            || to.parts.size() == 24) {
            return false;
        }
        to.parts.put(leastFree(to), new Part(to.persons.size(), 12, 0, -9, 0, 0, 0));
        to.persons.add(new Person(new int[] {said[0], said[1], said[2]}, said[3]));
        return true;
    }

    private static int leastFree(Told in) {
        int free = 0;
        while (in.parts.containsKey(free)) {
            free++;
        }
        return free;
    }

    private List<Part> partsOf(int person) {
        List<Part> all = new ArrayList<>();
        for (Part part : told.parts.values()) {
            if (part.person == person) {
                all.add(part);
            }
        }
        return all;
    }

    private int left(int person) {
        int sum = 0;
        for (Part part : partsOf(person)) {
            sum += part.twelfths;
        }
        return sum;
    }

    int person(int person, int what) {
        if (noPerson(person)) {
            return refuse(-1);
        }
        if (out(what, 0, 5)) {
            return refuse(-2);
        }
        Person who = told.persons.get(person);
        return what < 3 ? who.gifts[what] : what == 3 ? who.least : what == 4 ? left(person) : partsOf(person).size();
    }

    int work(int work, int what) {
        if (noWork(work)) {
            return refuse(-1);
        }
        if (out(what, 0, 5)) {
            return refuse(-2);
        }
        Work one = told.works.get(work);
        return what == 0 ? "pwltsh".indexOf(one.kind) : what == 1 ? one.place : what == 5 ? one.worth : one.needs[what - 2];
    }

    /** Tries out all ways without coming to a place twice. */
    private int far(int from, int to, int been) {
        if (from == to) {
            return 0;
        }
        int least = -9;
        for (int next = 0; next < told.places; next++) {
            Integer way = told.ways.get(Math.min(from, next) + "" + Math.max(from, next));
            if (way != null && (been >> next & 1) == 0) {
                int rest = far(next, to, been | 1 << next);
                if (rest >= 0 && (least < 0 || way + rest < least)) {
                    least = way + rest;
                }
            }
        }
        return least;
    }

    private int far(int from, int to) {
        return far(from, to, 1 << from);
    }

    int minutes(int from, int to) {
        return noPlace(from) || noPlace(to) ? refuse(-1) : far(from, to);
    }

    int partOf(int part, int what) {
        if (noPart(part)) {
            return refuse(-1);
        }
        if (out(what, 0, 6)) {
            return refuse(-2);
        }
        Part one = told.parts.get(part);
        return new int[] {one.person, one.twelfths, one.place, one.work, one.clock, one.tired, one.seen}[what];
    }

    int split(int part, int twelfths) {
        if (noPart(part)) {
            return refuse(-1);
        }
        Part one = told.parts.get(part);
        int least = told.persons.get(one.person).least;
        if (twelfths < least || (long) one.twelfths - twelfths < least) {
            return refuse(-3);
        }
        if (told.parts.size() == 24) {
            return refuse(-6);
        }
        int free = leastFree(told);
        told.parts.put(free, one.with("twelfths", twelfths).with("work", -9));
        told.parts.put(part, one.with("twelfths", one.twelfths - twelfths));
        return free;
    }

    int go(int part, int place) {
        if (noPart(part) || noPlace(place)) {
            return refuse(-1);
        }
        Part one = told.parts.get(part);
        int far = far(one.place, place);
        if (far < 0) {
            return refuse(-3);
        }
        told.parts.put(part, one.with("place", place).with("work", -9).with("clock", one.clock + far));
        return one.clock + far;
    }

    int see(int part) {
        if (noPart(part)) {
            return refuse(-1);
        }
        Part one = told.parts.get(part);
        told.parts.put(part, one.with("seen", one.seen | 1 << one.place));
        return Integer.bitCount(one.seen | 1 << one.place);
    }

    int join(int one, int other) {
        if (noPart(one) || noPart(other) || one == other) {
            return refuse(-1);
        }
        Part first = told.parts.get(one);
        Part second = told.parts.get(other);
        if (first.person != second.person || first.place != second.place) {
            return refuse(-3);
        }
        told.parts.remove(other);
        told.parts.put(one, new Part(first.person, first.twelfths + second.twelfths, first.place, -9,
            Math.max(first.clock, second.clock) + 1, Math.max(first.tired, second.tired), first.seen | second.seen));
        return first.twelfths + second.twelfths;
    }

    int at(int part, int work) {
        if (noPart(part) || (work != -1 && noWork(work))) {
            return refuse(-1);
        }
        Part one = told.parts.get(part);
        if (work >= 0 && told.works.get(work).place != one.place) {
            return refuse(-3);
        }
        told.parts.put(part, one.with("work", work < 0 ? -9 : work));
        return one.work;
    }

    int toil(int part, int m) {
        if (noPart(part)) {
            return refuse(-1);
        }
        if (out(m, 1, 600)) {
            return refuse(m < 1 ? -4 : -6);
        }
        Part one = told.parts.get(part);
        if (one.work < 0) {
            return refuse(-3);
        }
        int tired = one.tired + m * 12 / one.twelfths;
        told.parts.put(part, one.with("clock", one.clock + m).with("tired", tired));
        return tired;
    }

    int rest(int part, int m) {
        if (noPart(part)) {
            return refuse(-1);
        }
        if (out(m, 1, 600)) {
            return refuse(m < 1 ? -4 : -6);
        }
        Part one = told.parts.get(part);
        int tired = one.tired < 2 * m ? 0 : one.tired - 2 * m;
        told.parts.put(part, one.with("clock", one.clock + m).with("tired", tired));
        return tired;
    }

    int lose(int part) {
        return noPart(part) ? refuse(-1) : told.parts.remove(part).twelfths;
    }

    private int[] does(Work work, List<Help> helps) {
        int[] sums = new int[3];
        int persons = 0;
        for (Help help : helps) {
            persons |= 1 << help.person;
            int[] gifts = told.persons.get(help.person).gifts.clone();
            if (work.kind == 's') {
                gifts[1] *= 2;
            }
            if (work.kind == 'h') {
                gifts[0] = Math.max(0, gifts[0] - help.tired);
            }
            boolean isLarge = work.kind == 'w' ? help.twelfths == 12 : work.kind != 'l' && work.kind != 'h' || help.twelfths >= 8;
            for (int i = 0; i < 3 && isLarge && help.gives && help.tired <= 240; i++) {
                sums[i] += gifts[i] * help.twelfths;
            }
        }
        for (int i = 0; i < 3 && work.kind == 't' && Integer.bitCount(persons) > 1; i++) {
            sums[i] = sums[i] * 3 / 2;
        }
        return sums;
    }

    /** How well in 1 by 1000000000ths is not exact: above and below, in least terms. */
    private BigInteger[] well(Work work, List<Help> helps) {
        BigInteger above = BigInteger.ONE;
        BigInteger below = BigInteger.ONE;
        int[] sums = does(work, helps);
        for (int i = 0; i < 3; i++) {
            BigInteger sum = BigInteger.valueOf(sums[i]);
            BigInteger need = BigInteger.valueOf(12L * work.needs[i]);
            if (need.signum() > 0 && sum.multiply(below).compareTo(above.multiply(need)) < 0) {
                BigInteger common = sum.gcd(need);
                above = sum.divide(common);
                below = need.divide(common);
            }
        }
        return new BigInteger[] {above, below};
    }

    private boolean isDone(Work work, List<Help> helps) {
        return well(work, helps)[0].equals(well(work, helps)[1]);
    }

    private List<Help> helpsAt(int work) {
        List<Help> helps = new ArrayList<>();
        for (Part part : told.parts.values()) {
            if (part.work == work) {
                helps.add(new Help(part.person, part.twelfths, part.tired, true));
            }
        }
        return helps;
    }

    int does(int work, int what) {
        return noWork(work) ? refuse(-1) : out(what, 0, 2) ? refuse(-2) : does(told.works.get(work), helpsAt(work))[what];
    }

    int well(int work, int part) {
        return noWork(work) ? refuse(-1) : out(part, 0, 1) ? refuse(-2)
            : well(told.works.get(work), helpsAt(work))[part].intValue();
    }

    private boolean isMore(Work work, int[] before, int[] after) {
        for (int i = 0; i < 3; i++) {
            if (work.needs[i] > 0 && after[i] > before[i]) {
                return true;
            }
        }
        return false;
    }

    private static List<Help> and(List<Help> helps, int person, int twelfths) {
        List<Help> more = new ArrayList<>(helps);
        more.add(new Help(person, twelfths, 0, true));
        return more;
    }

    private boolean helps(Work work, List<Help> before, int person, int twelfths) {
        return isMore(work, does(work, before), does(work, and(before, person, twelfths)));
    }

    /** Who is at each work by a plan. */
    private List<List<Help>> planOf(int kind) {
        List<List<Help>> all = new ArrayList<>();
        for (int i = 0; i < told.works.size(); i++) {
            all.add(new ArrayList<>());
        }
        int works = all.size();
        int[] free = new int[6];
        for (int person = 0; person < told.persons.size(); person++) {
            int least = told.persons.get(person).least;
            free[person] = kind == 3 ? 12 - least : 12;
            for (int work = 0; work < works && kind < 2; work++) {
                List<Help> here = all.get(work);
                if (kind == 1 && 12 / works >= least) {
                    here.add(new Help(person, 12 / works, 0, true));
                }
                if (kind == 0 && !isDone(told.works.get(work), here) && helps(told.works.get(work), here, person, 12)) {
                    here.add(new Help(person, 12, 0, true));
                    break;
                }
            }
        }
        for (int work = 0; work < works && kind >= 2; work++) {
            for (int person = 0; person < told.persons.size(); person++) {
                free[person] -= planNeed(told.works.get(work), all.get(work), person, free[person]);
            }
        }
        return all;
    }

    private int planNeed(Work work, List<Help> here, int person, int free) {
        int least = told.persons.get(person).least;
        if (isDone(work, here) || free < least) {
            return 0;
        }
        int some = least;
        while (some < free && !isDone(work, and(here, person, some))) {
            some++;
        }
        if (!isDone(work, and(here, person, some)) && !helps(work, here, person, free)) {
            return 0;
        }
        here.add(new Help(person, some, 0, true));
        return some;
    }

    int plan(int kind) {
        if (out(kind, 0, 3)) {
            return refuse(-2);
        }
        int sum = 0;
        List<List<Help>> all = planOf(kind);
        for (int work = 0; work < all.size(); work++) {
            sum += isDone(told.works.get(work), all.get(work)) ? told.works.get(work).worth : 0;
        }
        return sum;
    }

    int planned(int kind, int person, int work) {
        if (out(kind, 0, 3)) {
            return refuse(-2);
        }
        if (noPerson(person) || noWork(work)) {
            return refuse(-1);
        }
        for (Help help : planOf(kind).get(work)) {
            if (help.person == person) {
                return help.twelfths;
            }
        }
        return 0;
    }

    private int bestWorth;
    private int[] bestQuarters;

    private int worthOf(int[] quarters) {
        int works = told.works.size();
        int sum = 0;
        for (int work = 0; work < works; work++) {
            List<Help> here = new ArrayList<>();
            for (int person = 0; person < told.persons.size(); person++) {
                int twelfths = 3 * quarters[person * works + work];
                if (twelfths > 0) {
                    here.add(new Help(person, twelfths, 0, twelfths >= told.persons.get(person).least));
                }
            }
            sum += isDone(told.works.get(work), here) ? told.works.get(work).worth : 0;
        }
        return sum;
    }

    /** Tries out all numbers of quarters, the places of the row one by one, so that the first comes first. */
    private void tryQuarters(int[] quarters, int next, int left) {
        if (next == quarters.length) {
            int worth = worthOf(quarters);
            if (worth > bestWorth) {
                bestWorth = worth;
                bestQuarters = quarters.clone();
            }
            return;
        }
        int most = next % told.works.size() == 0 ? 4 : left;
        for (int some = 0; some <= most; some++) {
            quarters[next] = some;
            tryQuarters(quarters, next + 1, most - some);
        }
    }

    private void findBest() {
        bestWorth = -1;
        tryQuarters(new int[told.persons.size() * told.works.size()], 0, 4);
    }

    int best() {
        if (told.persons.size() > 3 || told.works.size() > 3) {
            return refuse(-6);
        }
        findBest();
        return bestWorth;
    }

    int quarters(int person, int work) {
        if (noPerson(person) || noWork(work)) {
            return refuse(-1);
        }
        if (told.persons.size() > 3 || told.works.size() > 3) {
            return refuse(-6);
        }
        findBest();
        return bestQuarters[person * told.works.size() + work];
    }

    /** Tries out at which of the whole works each person of a set is. */
    private boolean canAll(List<Work> wholes, List<List<Help>> here, int set, int person) {
        if (person == told.persons.size()) {
            for (int i = 0; i < wholes.size(); i++) {
                if (!isDone(wholes.get(i), here.get(i))) {
                    return false;
                }
            }
            return true;
        }
        if ((set >> person & 1) == 0) {
            return canAll(wholes, here, set, person + 1);
        }
        for (List<Help> one : here) {
            one.add(new Help(person, 12, 0, true));
            boolean can = canAll(wholes, here, set, person + 1);
            one.remove(one.size() - 1);
            if (can) {
                return true;
            }
        }
        return false;
    }

    int must() {
        List<Work> wholes = new ArrayList<>();
        List<List<Help>> here = new ArrayList<>();
        for (Work work : told.works) {
            if (work.kind == 'w') {
                wholes.add(work);
                here.add(new ArrayList<>());
            }
        }
        for (int size = 0; size <= told.persons.size(); size++) {
            for (int set = 0; set < 1 << told.persons.size(); set++) {
                if (Integer.bitCount(set) == size && canAll(wholes, here, set, 0)) {
                    return set;
                }
            }
        }
        return -9;
    }

    int with(int work) {
        if (noWork(work)) {
            return refuse(-1);
        }
        Work one = told.works.get(work);
        if (one.kind != 't') {
            return refuse(-2);
        }
        int best = -9;
        BigInteger[] most = null;
        for (int i = 0; i < told.persons.size(); i++) {
            for (int j = i + 1; j < told.persons.size(); j++) {
                BigInteger[] well = well(one, List.of(new Help(i, 12, 0, true), new Help(j, 12, 0, true)));
                if (most == null || well[0].multiply(most[1]).compareTo(most[0].multiply(well[1])) > 0) {
                    most = well;
                    best = 10 * i + j;
                }
            }
        }
        return best;
    }

    int thin(int person) {
        return noPerson(person) ? refuse(-1) : 12 / told.persons.get(person).least;
    }

    int few(int person, int work) {
        if (noPerson(person) || noWork(work)) {
            return refuse(-1);
        }
        if (told.works.get(work).kind != 'p') {
            return refuse(-2);
        }
        for (int some = told.persons.get(person).least; some <= 12; some++) {
            if (isDone(told.works.get(work), List.of(new Help(person, some, 0, true)))) {
                return some;
            }
        }
        return -9;
    }

    long chance(int person, int hundredths, int what, int part) {
        List<Part> away = new ArrayList<>();
        int home = 0;
        for (Part one : partsOf(person)) {
            if (one.place == 0) {
                home += one.twelfths;
            } else {
                away.add(one);
            }
        }
        int refusal = noPerson(person) ? -1 : out(what, 0, 1) || out(part, 0, 1) ? -2 : hundredths < 0 ? -4
            : hundredths > 100 || away.size() > 9 ? -6 : partsOf(person).isEmpty() ? -3 : 0;
        if (refusal != 0) {
            return 4000000000000000000L - refuse(refusal);
        }
        BigInteger above = BigInteger.ONE;
        BigInteger below = BigInteger.valueOf(100).pow(away.size());
        if (what == 1) {
            above = BigInteger.valueOf(100 - hundredths).pow(away.size());
        } else {
            // All that may be, one after another: which parts are left, and how likely that is.
            above = BigInteger.ZERO;
            for (int set = 0; set < 1 << away.size(); set++) {
                int twelfths = home;
                BigInteger likely = BigInteger.ONE;
                for (int i = 0; i < away.size(); i++) {
                    boolean isLeft = (set >> i & 1) == 1;
                    twelfths += isLeft ? away.get(i).twelfths : 0;
                    likely = likely.multiply(BigInteger.valueOf(isLeft ? 100 - hundredths : hundredths));
                }
                above = above.add(likely.multiply(BigInteger.valueOf(twelfths)));
            }
        }
        return (part == 0 ? above : below).divide(above.gcd(below)).longValueExact();
    }

    private int refusalOf(int person, int what) {
        return noPerson(person) ? -1 : out(what, 0, 1) ? -2 : partsOf(person).isEmpty() ? -3 : 0;
    }

    int together(int person, int what) {
        if (refusalOf(person, what) != 0) {
            return refuse(refusalOf(person, what));
        }
        int[] best = {-9, -9};
        for (int place = told.places - 1; place >= 0; place--) {
            int minute = 0;
            for (Part part : partsOf(person)) {
                int far = far(part.place, place);
                minute = far < 0 ? Integer.MAX_VALUE : Math.max(minute, part.clock + far);
                if (far < 0) {
                    break;
                }
            }
            if (minute != Integer.MAX_VALUE && (best[0] < 0 || minute <= best[0])) {
                best = new int[] {minute, place};
            }
        }
        return best[what];
    }

    int known(int person, int what) {
        if (refusalOf(person, what) != 0) {
            return refuse(refusalOf(person, what));
        }
        int bits = 0;
        for (int place = 0; place < 6; place++) {
            int seen = 0;
            for (Part part : partsOf(person)) {
                seen += part.seen >> place & 1;
            }
            if (seen > 0 && (what == 0 || seen == partsOf(person).size())) {
                bits |= 1 << place;
            }
        }
        return bits;
    }

    int row(int v) {
        if (v < 0) {
            return refuse(-4);
        }
        if (v > 99 || row.size() == 12) {
            return refuse(-6);
        }
        row.add(v);
        return row.size();
    }

    int judge(int person) {
        if (noPerson(person)) {
            return refuse(-1);
        }
        List<Integer> all = row;
        row = new ArrayList<>();
        int left = 12;
        for (int i = 0; i < all.size(); i++) {
            left -= all.get(i);
            if (left < 0 || all.get(i) < told.persons.get(person).least) {
                return i;
            }
        }
        return left == 0 ? -9 : all.size();
    }

    int image() {
        kept = told.copy();
        return told.parts.size();
    }

    int on() {
        if (kept == null) {
            return refuse(-3);
        }
        told = kept.copy();
        return told.parts.size();
    }

    int count(int what) {
        if (what >= 11 && what <= 16) {
            return refused[what - 10];
        }
        int done = 0;
        for (int work = 0; work < told.works.size(); work++) {
            done += isDone(told.works.get(work), helpsAt(work)) ? 1 : 0;
        }
        int[] all = {told.places, told.persons.size(), told.works.size(), told.parts.size(), done, row.size(), letters.length()};
        return out(what, 0, 6) ? -9 : all[what];
    }
}
