/** People who can be in several places at once, with so many twelfths of themselves in each. */
public final class HalfHere {
    private static final int NOBODY = -1;
    private static final int OTHER = -2;
    private static final int STATE = -3;
    private static final int BELOW = -4;
    private static final int ROOM = -6;
    private static final int NONE = -9;
    private static final long LONG_REFUSAL = 4000000000000000000L;

    private static final int WHOLE_TWELFTHS = 12;
    private static final int MOST_PLACES = 6;
    private static final int MOST_PERSONS = 6;
    private static final int MOST_WORKS = 6;
    private static final int MOST_PARTS = 24;
    private static final int GIFTS = 3;
    private static final int STRENGTH = 0;
    private static final int WITS = 1;
    private static final int VOICE = 2;
    private static final int LONGEST = 600;
    private static final int ROW_MOST = 12;

    private final Tape tape;
    private final Village now;
    private final Village trial;
    private final Village kept;
    private boolean isKept;
    private final Effort effort;
    private final Planner planner;
    private final Quartering quartering;
    private final Company company;
    private final int[] row;
    private int rowLength;
    private final int[] refusals;

    public HalfHere() {
        tape = new Tape();
        now = new Village();
        trial = new Village();
        kept = new Village();
        isKept = false;
        effort = new Effort();
        planner = new Planner();
        quartering = new Quartering();
        company = new Company();
        row = new int[ROW_MOST];
        rowLength = 0;
        refusals = new int[7];
    }

    // ---- what is told ----

    public int feed(int letter) {
        if (letter < 0) {
            return refuse(BELOW);
        }
        if (letter > 255 || tape.isFull()) {
            return refuse(ROOM);
        }
        return tape.take(letter);
    }

    public int village() {
        // Told to a copy first: with a fault nothing of it may come.
        trial.become(now);
        int answer = tape.tellAll(trial);
        tape.clear();
        if (answer > 0) {
            now.become(trial);
            quartering.forget();
        }
        return answer;
    }

    public int person(int person, int what) {
        if (!now.hasPerson(person)) {
            return refuse(NOBODY);
        }
        switch (what) {
            case 0:
            case 1:
            case 2:
                return now.persons[person].gifts[what];
            case 3:
                return now.persons[person].least;
            case 4:
                return now.twelfthsOf(person);
            case 5:
                return now.partsOf(person);
            default:
                return refuse(OTHER);
        }
    }

    public int work(int work, int what) {
        if (!now.hasWork(work)) {
            return refuse(NOBODY);
        }
        Work told = now.works[work];
        switch (what) {
            case 0:
                return told.kind;
            case 1:
                return told.place;
            case 2:
            case 3:
            case 4:
                return told.needs[what - 2];
            case 5:
                return told.worth;
            default:
                return refuse(OTHER);
        }
    }

    public int minutes(int from, int to) {
        if (!now.hasPlace(from) || !now.hasPlace(to)) {
            return refuse(NOBODY);
        }
        now.measure();
        return now.far[from][to];
    }

    // ---- parts ----

    public int partOf(int part, int what) {
        if (!now.hasPart(part)) {
            return refuse(NOBODY);
        }
        Part one = now.parts[part];
        switch (what) {
            case 0:
                return one.person;
            case 1:
                return one.twelfths;
            case 2:
                return one.place;
            case 3:
                return one.work;
            case 4:
                return one.clock;
            case 5:
                return one.tired;
            case 6:
                return one.seen;
            default:
                return refuse(OTHER);
        }
    }

    public int split(int part, int twelfths) {
        if (!now.hasPart(part)) {
            return refuse(NOBODY);
        }
        Part one = now.parts[part];
        int least = now.persons[one.person].least;
        if (twelfths < least || twelfths > one.twelfths - least) {
            return refuse(STATE);
        }
        int free = now.freePart();
        if (free < 0) {
            return refuse(ROOM);
        }
        Part other = now.parts[free];
        other.become(one);
        other.twelfths = twelfths;
        other.work = NONE;
        one.twelfths -= twelfths;
        return free;
    }

    public int go(int part, int place) {
        if (!now.hasPart(part) || !now.hasPlace(place)) {
            return refuse(NOBODY);
        }
        Part one = now.parts[part];
        now.measure();
        int far = now.far[one.place][place];
        if (far < 0) {
            return refuse(STATE);
        }
        one.place = place;
        one.clock += far;
        one.work = NONE;
        return one.clock;
    }

    public int see(int part) {
        if (!now.hasPart(part)) {
            return refuse(NOBODY);
        }
        Part one = now.parts[part];
        one.seen |= 1 << one.place;
        return Integer.bitCount(one.seen);
    }

    public int join(int one, int other) {
        if (!now.hasPart(one) || !now.hasPart(other) || one == other) {
            return refuse(NOBODY);
        }
        Part first = now.parts[one];
        Part second = now.parts[other];
        if (first.person != second.person || first.place != second.place) {
            return refuse(STATE);
        }
        first.twelfths += second.twelfths;
        first.clock = Math.max(first.clock, second.clock) + 1;
        first.tired = Math.max(first.tired, second.tired);
        first.seen |= second.seen;
        first.work = NONE;
        second.clear();
        return first.twelfths;
    }

    public int at(int part, int work) {
        if (!now.hasPart(part) || (work != -1 && !now.hasWork(work))) {
            return refuse(NOBODY);
        }
        Part one = now.parts[part];
        if (work != -1 && now.works[work].place != one.place) {
            return refuse(STATE);
        }
        int before = one.work;
        one.work = work == -1 ? NONE : work;
        return before;
    }

    public int toil(int part, int m) {
        int refusal = refusalOfTime(part, m);
        if (refusal != 0) {
            return refuse(refusal);
        }
        Part one = now.parts[part];
        if (one.work == NONE) {
            return refuse(STATE);
        }
        one.clock += m;
        one.tired += one.twelfths < 1 ? 0 : m * WHOLE_TWELFTHS / one.twelfths;
        return one.tired;
    }

    public int rest(int part, int m) {
        int refusal = refusalOfTime(part, m);
        if (refusal != 0) {
            return refuse(refusal);
        }
        Part one = now.parts[part];
        one.clock += m;
        one.tired = Math.max(0, one.tired - 2 * m);
        return one.tired;
    }

    public int lose(int part) {
        if (!now.hasPart(part)) {
            return refuse(NOBODY);
        }
        int lost = now.parts[part].twelfths;
        now.parts[part].clear();
        return lost;
    }

    // ---- works ----

    public int does(int work, int what) {
        if (!now.hasWork(work)) {
            return refuse(NOBODY);
        }
        if (what < 0 || what >= GIFTS) {
            return refuse(OTHER);
        }
        gatherParts(work);
        return effort.sum(what);
    }

    public int well(int work, int part) {
        if (!now.hasWork(work)) {
            return refuse(NOBODY);
        }
        if (part < 0 || part > 1) {
            return refuse(OTHER);
        }
        gatherParts(work);
        effort.weigh();
        return part == 0 ? effort.above : effort.below;
    }

    // ---- plans ----

    public int plan(int kind) {
        if (!Planner.isKind(kind)) {
            return refuse(OTHER);
        }
        planner.make(kind, now);
        return planner.worth(now);
    }

    public int planned(int kind, int person, int work) {
        if (!Planner.isKind(kind)) {
            return refuse(OTHER);
        }
        if (!now.hasPerson(person) || !now.hasWork(work)) {
            return refuse(NOBODY);
        }
        planner.make(kind, now);
        return planner.twelfths[person][work];
    }

    public int best() {
        if (!Quartering.fits(now)) {
            return refuse(ROOM);
        }
        quartering.find(now);
        return quartering.worth;
    }

    public int quarters(int person, int work) {
        if (!now.hasPerson(person) || !now.hasWork(work)) {
            return refuse(NOBODY);
        }
        if (!Quartering.fits(now)) {
            return refuse(ROOM);
        }
        quartering.find(now);
        return quartering.quartersAt(person, work);
    }

    public int must() {
        return company.fewestForWholes(now);
    }

    public int with(int work) {
        if (!now.hasWork(work)) {
            return refuse(NOBODY);
        }
        if (now.works[work].kind != Work.TWO) {
            return refuse(OTHER);
        }
        return company.bestTwo(now, now.works[work]);
    }

    public int thin(int person) {
        if (!now.hasPerson(person)) {
            return refuse(NOBODY);
        }
        int least = now.persons[person].least;
        return least < 1 ? 0 : WHOLE_TWELFTHS / least;
    }

    public int few(int person, int work) {
        if (!now.hasPerson(person) || !now.hasWork(work)) {
            return refuse(NOBODY);
        }
        Work told = now.works[work];
        if (told.kind != Work.PLAIN) {
            return refuse(OTHER);
        }
        Person who = now.persons[person];
        // Fewer than LEAST are no part, and only a part gives.
        for (int twelfths = who.least; twelfths <= WHOLE_TWELFTHS; twelfths++) {
            effort.begin(told);
            effort.add(person, who, twelfths, 0);
            if (effort.isDone()) {
                return twelfths;
            }
        }
        return NONE;
    }

    // ---- what may be ----

    public long chance(int person, int hundredths, int what, int part) {
        int refusal = refusalOfChance(person, hundredths, what, part);
        if (refusal != 0) {
            return LONG_REFUSAL - refuse(refusal);
        }
        if (what == 0) {
            return meanLeft(person, hundredths, part);
        }
        return allLeft(person, hundredths, part);
    }

    public int together(int person, int what) {
        int refusal = refusalOfParts(person, what);
        if (refusal != 0) {
            return refuse(refusal);
        }
        now.measure();
        int least = NONE;
        int where = NONE;
        for (int place = 0; place < now.places; place++) {
            int minute = now.minuteAt(person, place);
            if (minute >= 0 && (least == NONE || minute < least)) {
                least = minute;
                where = place;
            }
        }
        return what == 0 ? least : where;
    }

    public int known(int person, int what) {
        int refusal = refusalOfParts(person, what);
        if (refusal != 0) {
            return refuse(refusal);
        }
        int some = 0;
        int all = -1;
        for (int i = 0; i < MOST_PARTS; i++) {
            if (now.isPartOf(i, person)) {
                some |= now.parts[i].seen;
                all &= now.parts[i].seen;
            }
        }
        return what == 0 ? some : all;
    }

    // ---- the row ----

    public int row(int v) {
        if (v < 0) {
            return refuse(BELOW);
        }
        if (v > 99 || rowLength >= ROW_MOST) {
            return refuse(ROOM);
        }
        row[rowLength] = v;
        rowLength++;
        return rowLength;
    }

    public int judge(int person) {
        if (!now.hasPerson(person)) {
            return refuse(NOBODY);
        }
        int answer = judged(now.persons[person].least);
        rowLength = 0;
        return answer;
    }

    // ---- the image, counts ----

    public int image() {
        kept.become(now);
        isKept = true;
        return now.partCount();
    }

    public int on() {
        if (!isKept) {
            return refuse(STATE);
        }
        now.become(kept);
        quartering.forget();
        return now.partCount();
    }

    public int count(int what) {
        switch (what) {
            case 0:
                return now.places;
            case 1:
                return now.personCount;
            case 2:
                return now.workCount;
            case 3:
                return now.partCount();
            case 4:
                return worksDone();
            case 5:
                return rowLength;
            case 6:
                return tape.length;
            default:
                return what >= 11 && what <= 16 ? refusals[what - 10] : NONE;
        }
    }

    // ---- helpers ----

    private int refuse(int number) {
        int slot = -number;
        if (slot >= 1 && slot <= 6) {
            refusals[slot]++;
        }
        return number;
    }

    /** What toil and rest refuse alike; 0 nothing. */
    private int refusalOfTime(int part, int m) {
        if (!now.hasPart(part)) {
            return NOBODY;
        }
        if (m < 1) {
            return BELOW;
        }
        return m > LONGEST ? ROOM : 0;
    }

    /** What together and known refuse alike; 0 nothing. */
    private int refusalOfParts(int person, int what) {
        if (!now.hasPerson(person)) {
            return NOBODY;
        }
        if (what < 0 || what > 1) {
            return OTHER;
        }
        return now.partsOf(person) == 0 ? STATE : 0;
    }

    private int refusalOfChance(int person, int hundredths, int what, int part) {
        if (!now.hasPerson(person)) {
            return NOBODY;
        }
        if (what < 0 || what > 1 || part < 0 || part > 1) {
            return OTHER;
        }
        if (hundredths < 0) {
            return BELOW;
        }
        // More than nine and the line's lower side would not fit into a long.
        if (hundredths > 100 || now.partsAway(person) > 9) {
            return ROOM;
        }
        return now.partsOf(person) == 0 ? STATE : 0;
    }

    private void gatherParts(int work) {
        effort.begin(now.works[work]);
        for (int i = 0; i < MOST_PARTS; i++) {
            Part one = now.parts[i];
            if (now.hasPart(i) && one.work == work) {
                effort.add(one.person, now.persons[one.person], one.twelfths, one.tired);
            }
        }
    }

    private int worksDone() {
        int done = 0;
        for (int work = 0; work < now.workCount; work++) {
            gatherParts(work);
            if (effort.isDone()) {
                done++;
            }
        }
        return done;
    }

    private long meanLeft(int person, int hundredths, int part) {
        long away = now.twelfthsAway(person);
        long home = now.twelfthsOf(person) - away;
        long above = 100 * home + (100 - hundredths) * away;
        long common = Math.max(1L, commonDivisor(above, 100));
        return part == 0 ? above / common : 100 / common;
    }

    private long allLeft(int person, int hundredths, int part) {
        long common = Math.max(1L, commonDivisor(100 - hundredths, 100));
        long each = part == 0 ? (100 - hundredths) / common : 100 / common;
        int parts = now.partsAway(person);
        long answer = 1;
        for (int i = 0; i < parts; i++) {
            answer *= each;
        }
        return answer;
    }

    private static long commonDivisor(long one, long other) {
        long greater = one;
        long lesser = other;
        for (int i = 0; i < 200 && lesser != 0; i++) {
            long left = greater % lesser;
            greater = lesser;
            lesser = left;
        }
        return greater;
    }

    private int judged(int least) {
        int sum = 0;
        for (int i = 0; i < rowLength; i++) {
            sum += row[i];
            if (row[i] < least || sum > WHOLE_TWELFTHS) {
                return i;
            }
        }
        return sum < WHOLE_TWELFTHS ? rowLength : NONE;
    }

    /** The letters that have come, and how a village is read from them. */
    private static final class Tape {
        static final int MOST = 64;
        static final int FORM_FAULT = -1000;
        static final int SENSE_FAULT = -2000;
        static final char[] KIND_LETTERS = {'p', 'w', 'l', 't', 's', 'h'};

        final int[] letters;
        int length;
        int reading;
        final int[] said;
        int saidCount;

        Tape() {
            letters = new int[MOST];
            said = new int[6];
        }

        boolean isFull() {
            return length >= MOST;
        }

        int take(int letter) {
            if (length < MOST) {
                letters[length] = letter;
                length++;
            }
            return length;
        }

        void clear() {
            length = 0;
        }

        /** How many statements were told to the village, or the fault. */
        int tellAll(Village to) {
            int wrong = wrongLetter();
            if (wrong >= 0) {
                return FORM_FAULT - wrong;
            }
            reading = 0;
            int told = 0;
            while (told < MOST && reading < length) {
                int first = reading;
                readStatement();
                if (!to.takesStatement(letters[first], said)) {
                    return SENSE_FAULT - first;
                }
                told++;
            }
            return told;
        }

        /** The place of the first letter with which no village can go on; -1 none. */
        int wrongLetter() {
            reading = 0;
            int statements = 0;
            while (statements < MOST && (reading < length || statements == 0)) {
                if (!readStatement()) {
                    return reading;
                }
                statements++;
            }
            return -1;
        }

        /** Reads one statement into said; where it is false, reading stands at the wrong letter. */
        boolean readStatement() {
            saidCount = 0;
            int first = letter();
            switch (first) {
                case 'n':
                    reading++;
                    return readNumber(1) && readSign(';');
                case 'w':
                    reading++;
                    return readNumber(1) && readNumber(1) && readSign(',')
                        && readNumber(2) && readSign(';');
                case 'p':
                    reading++;
                    return readThree(2) && readNumber(2) && readSign(';');
                case 'k':
                    reading++;
                    return readKind() && readNumber(1) && readThree(3)
                        && readNumber(2) && readSign(';');
                default:
                    return false;
            }
        }

        /** The letter that is read next; -1 at the end. */
        int letter() {
            return reading >= 0 && reading < length ? letters[reading] : -1;
        }

        void say(int number) {
            if (saidCount < said.length) {
                said[saidCount] = number;
                saidCount++;
            }
        }

        boolean readSign(int sign) {
            if (letter() != sign) {
                return false;
            }
            reading++;
            return true;
        }

        boolean isAtDigit() {
            return reading >= 0 && reading < length && letters[reading] >= '0' && letters[reading] <= '9';
        }

        boolean readNumber(int mostDigits) {
            if (!isAtDigit()) {
                return false;
            }
            int number = 0;
            for (int digits = 0; digits < mostDigits && isAtDigit(); digits++) {
                number = 10 * number + letter() - '0';
                reading++;
            }
            say(number);
            return true;
        }

        /** Three numbers, each with a comma behind. */
        boolean readThree(int mostDigits) {
            for (int i = 0; i < GIFTS; i++) {
                if (!readNumber(mostDigits) || !readSign(',')) {
                    return false;
                }
            }
            return true;
        }

        boolean readKind() {
            int letter = letter();
            for (int kind = 0; kind < KIND_LETTERS.length; kind++) {
                if (KIND_LETTERS[kind] == letter) {
                    reading++;
                    say(kind);
                    return true;
                }
            }
            return false;
        }
    }

    /** All that is told, and the parts. */
    private static final class Village {
        int places;
        int personCount;
        int workCount;
        final int[][] ways;
        final int[][] far;
        final Person[] persons;
        final Work[] works;
        final Part[] parts;

        Village() {
            places = 3;
            ways = new int[MOST_PLACES][MOST_PLACES];
            far = new int[MOST_PLACES][MOST_PLACES];
            persons = new Person[MOST_PERSONS];
            works = new Work[MOST_WORKS];
            parts = new Part[MOST_PARTS];
            for (int i = 0; i < MOST_PERSONS; i++) {
                persons[i] = new Person();
            }
            for (int i = 0; i < MOST_WORKS; i++) {
                works[i] = new Work();
            }
            for (int i = 0; i < MOST_PARTS; i++) {
                parts[i] = new Part();
            }
        }

        void become(Village other) {
            places = other.places;
            personCount = other.personCount;
            workCount = other.workCount;
            for (int i = 0; i < MOST_PLACES; i++) {
                System.arraycopy(other.ways[i], 0, ways[i], 0, MOST_PLACES);
            }
            for (int i = 0; i < MOST_PERSONS; i++) {
                persons[i].become(other.persons[i]);
            }
            for (int i = 0; i < MOST_WORKS; i++) {
                works[i].become(other.works[i]);
            }
            for (int i = 0; i < MOST_PARTS; i++) {
                parts[i].become(other.parts[i]);
            }
        }

        boolean hasPlace(int place) {
            return place >= 0 && place < places;
        }

        boolean hasPerson(int person) {
            return person >= 0 && person < personCount;
        }

        boolean hasWork(int work) {
            return work >= 0 && work < workCount;
        }

        boolean hasPart(int part) {
            return part >= 0 && part < MOST_PARTS && parts[part].twelfths > 0;
        }

        boolean isPartOf(int part, int person) {
            return hasPart(part) && parts[part].person == person;
        }

        /** The least free number of a part; -1 none. */
        int freePart() {
            for (int i = 0; i < MOST_PARTS; i++) {
                if (!hasPart(i)) {
                    return i;
                }
            }
            return -1;
        }

        int partCount() {
            int count = 0;
            for (int i = 0; i < MOST_PARTS; i++) {
                if (hasPart(i)) {
                    count++;
                }
            }
            return count;
        }

        int partsOf(int person) {
            int count = 0;
            for (int i = 0; i < MOST_PARTS; i++) {
                if (isPartOf(i, person)) {
                    count++;
                }
            }
            return count;
        }

        int twelfthsOf(int person) {
            int sum = 0;
            for (int i = 0; i < MOST_PARTS; i++) {
                if (isPartOf(i, person)) {
                    sum += parts[i].twelfths;
                }
            }
            return sum;
        }

        /** How many parts of a person are not at place 0. */
        int partsAway(int person) {
            int count = 0;
            for (int i = 0; i < MOST_PARTS; i++) {
                if (isPartOf(i, person) && parts[i].place != 0) {
                    count++;
                }
            }
            return count;
        }

        /** How many twelfths of a person are not at place 0. */
        int twelfthsAway(int person) {
            int sum = 0;
            for (int i = 0; i < MOST_PARTS; i++) {
                if (isPartOf(i, person) && parts[i].place != 0) {
                    sum += parts[i].twelfths;
                }
            }
            return sum;
        }

        /** Whether the statement is as it must be; it has come then. */
        boolean takesStatement(int first, int[] said) {
            switch (first) {
                case 'n':
                    return takesPlaces(said[0]);
                case 'w':
                    return takesWay(said[0], said[1], said[2]);
                case 'p':
                    return takesPerson(said);
                case 'k':
                    return takesWork(said);
                default:
                    return false;
            }
        }

        boolean takesPlaces(int count) {
            if (count < 1 || count > MOST_PLACES || count < placesInUse()) {
                return false;
            }
            places = count;
            return true;
        }

        /** How many places there must be for all that are told of, or that parts are at. */
        int placesInUse() {
            int last = -1;
            for (int i = 0; i < MOST_PLACES; i++) {
                for (int j = 0; j < MOST_PLACES; j++) {
                    if (ways[i][j] > 0) {
                        last = Math.max(last, i);
                    }
                }
            }
            for (int i = 0; i < workCount; i++) {
                last = Math.max(last, works[i].place);
            }
            for (int i = 0; i < MOST_PARTS; i++) {
                if (hasPart(i)) {
                    last = Math.max(last, parts[i].place);
                }
            }
            return last + 1;
        }

        boolean takesWay(int one, int other, int minutes) {
            if (!hasPlace(one) || !hasPlace(other) || one == other || minutes < 1 || minutes > 60) {
                return false;
            }
            ways[one][other] = minutes;
            ways[other][one] = minutes;
            return true;
        }

        boolean takesPerson(int[] said) {
            int free = freePart();
            if (personCount >= MOST_PERSONS || free < 0) {
                return false;
            }
            int least = said[GIFTS];
            if (least < 1 || least > WHOLE_TWELFTHS) {
                return false;
            }
            for (int i = 0; i < GIFTS; i++) {
                if (said[i] > 60) {
                    return false;
                }
                persons[personCount].gifts[i] = said[i];
            }
            persons[personCount].least = least;
            parts[free].clear();
            parts[free].person = personCount;
            parts[free].twelfths = WHOLE_TWELFTHS;
            personCount++;
            return true;
        }

        boolean takesWork(int[] said) {
            if (workCount >= MOST_WORKS || !hasPlace(said[1])) {
                return false;
            }
            Work more = works[workCount];
            for (int i = 0; i < GIFTS; i++) {
                if (said[2 + i] > 200) {
                    return false;
                }
                more.needs[i] = said[2 + i];
            }
            more.kind = said[0];
            more.place = said[1];
            more.worth = said[5];
            workCount++;
            return true;
        }

        /** Fills far with the least minutes between any two places; NONE where there is no way. */
        void measure() {
            for (int i = 0; i < MOST_PLACES; i++) {
                for (int j = 0; j < MOST_PLACES; j++) {
                    far[i][j] = ways[i][j] > 0 ? ways[i][j] : NONE;
                }
                far[i][i] = 0;
            }
            for (int by = 0; by < MOST_PLACES; by++) {
                for (int i = 0; i < MOST_PLACES; i++) {
                    for (int j = 0; j < MOST_PLACES; j++) {
                        shorten(i, by, j);
                    }
                }
            }
        }

        void shorten(int from, int by, int to) {
            if (far[from][by] < 0 || far[by][to] < 0) {
                return;
            }
            int minutes = far[from][by] + far[by][to];
            if (far[from][to] < 0 || minutes < far[from][to]) {
                far[from][to] = minutes;
            }
        }

        /** When all parts of a person can be at a place, by what was measured; NONE never. */
        int minuteAt(int person, int place) {
            int latest = NONE;
            for (int i = 0; i < MOST_PARTS; i++) {
                if (isPartOf(i, person)) {
                    int minutes = far[parts[i].place][place];
                    if (minutes < 0) {
                        return NONE;
                    }
                    latest = Math.max(latest, parts[i].clock + minutes);
                }
            }
            return latest;
        }
    }

    private static final class Person {
        final int[] gifts;
        int least;

        Person() {
            gifts = new int[GIFTS];
            least = 1;
        }

        void become(Person other) {
            System.arraycopy(other.gifts, 0, gifts, 0, GIFTS);
            least = other.least;
        }
    }

    private static final class Work {
        static final int PLAIN = 0;
        static final int WHOLE = 1;
        static final int TWO = 3;
        static final int SKILL = 4;
        static final int HARD = 5;

        int kind;
        int place;
        final int[] needs;
        int worth;

        Work() {
            needs = new int[GIFTS];
        }

        void become(Work other) {
            kind = other.kind;
            place = other.place;
            System.arraycopy(other.needs, 0, needs, 0, GIFTS);
            worth = other.worth;
        }
    }

    /** So many twelfths of a person at a place; no twelfths: there is none. */
    private static final class Part {
        int person;
        int twelfths;
        int place;
        int work;
        int clock;
        int tired;
        int seen;

        Part() {
            work = NONE;
        }

        void clear() {
            person = 0;
            twelfths = 0;
            place = 0;
            work = NONE;
            clock = 0;
            tired = 0;
            seen = 0;
        }

        void become(Part other) {
            person = other.person;
            twelfths = other.twelfths;
            place = other.place;
            work = other.work;
            clock = other.clock;
            tired = other.tired;
            seen = other.seen;
        }
    }

    /** What parts give to one work, and how well it is done by that. */
    private static final class Effort {
        static final int TOO_TIRED = 240;
        /** The least twelfths of a part that gives, by the kind of the work. */
        static final int[] LEAST_TO_GIVE = {1, 12, 8, 1, 1, 8};

        int kind;
        final int[] needs;
        final int[] given;
        int helpers;
        int above;
        int below;

        Effort() {
            needs = new int[GIFTS];
            given = new int[GIFTS];
            below = 1;
        }

        void begin(Work work) {
            kind = work.kind;
            helpers = 0;
            for (int i = 0; i < GIFTS; i++) {
                needs[i] = work.needs[i];
                given[i] = 0;
            }
        }

        /** One of the person is there, whether it gives or not. */
        void stand(int person) {
            helpers |= 1 << person;
        }

        /** One of the person is there, and gives what its kind of work takes. */
        void add(int person, Person who, int twelfths, int tired) {
            helpers |= 1 << person;
            if (tired > TOO_TIRED || twelfths < LEAST_TO_GIVE[kind]) {
                return;
            }
            int strength = who.gifts[STRENGTH];
            if (kind == Work.HARD) {
                strength = strength > tired ? strength - tired : 0;
            }
            int wits = who.gifts[WITS];
            if (kind == Work.SKILL) {
                wits = 2 * wits;
            }
            given[STRENGTH] += strength * twelfths;
            given[WITS] += wits * twelfths;
            given[VOICE] += who.gifts[VOICE] * twelfths;
        }

        /** What is done of one thing. */
        int sum(int gift) {
            if (kind == Work.TWO && Integer.bitCount(helpers) >= 2) {
                return given[gift] + given[gift] / 2;
            }
            return given[gift];
        }

        boolean isDone() {
            for (int i = 0; i < GIFTS; i++) {
                if (sum(i) < WHOLE_TWELFTHS * needs[i]) {
                    return false;
                }
            }
            return true;
        }

        /** Fills above and below with how well, in least terms. */
        void weigh() {
            above = 1;
            below = 1;
            for (int i = 0; i < GIFTS; i++) {
                int wanted = WHOLE_TWELFTHS * needs[i];
                if (wanted > 0 && sum(i) * below < above * wanted) {
                    above = sum(i);
                    below = wanted;
                }
            }
            int common = (int) Math.max(1L, commonDivisor(above, below));
            above /= common;
            below /= common;
        }
    }

    /** The plans of kinds: persons whole and untired, places left out. */
    private static final class Planner {
        static final int WHOLES = 0;
        static final int EVEN = 1;
        static final int NEED = 2;
        static final int SPARE = 3;

        final int[][] twelfths;
        final Effort before;
        final Effort after;

        Planner() {
            twelfths = new int[MOST_PERSONS][MOST_WORKS];
            before = new Effort();
            after = new Effort();
        }

        static boolean isKind(int kind) {
            return kind >= WHOLES && kind <= SPARE;
        }

        void make(int kind, Village in) {
            for (int i = 0; i < MOST_PERSONS; i++) {
                for (int j = 0; j < MOST_WORKS; j++) {
                    twelfths[i][j] = 0;
                }
            }
            switch (kind) {
                case WHOLES:
                    makeWholes(in);
                    break;
                case EVEN:
                    makeEven(in);
                    break;
                case NEED:
                    makeNeed(in, false);
                    break;
                case SPARE:
                    makeNeed(in, true);
                    break;
                default:
                    break;
            }
        }

        /** The worth of all works that are done by the plan. */
        int worth(Village in) {
            int sum = 0;
            for (int work = 0; work < in.workCount; work++) {
                if (isDone(in, work)) {
                    sum += in.works[work].worth;
                }
            }
            return sum;
        }

        void makeWholes(Village in) {
            for (int person = 0; person < in.personCount; person++) {
                boolean isPlaced = false;
                for (int work = 0; work < in.workCount && !isPlaced; work++) {
                    if (!isDone(in, work) && helps(in, person, work, WHOLE_TWELFTHS)) {
                        twelfths[person][work] = WHOLE_TWELFTHS;
                        isPlaced = true;
                    }
                }
            }
        }

        void makeEven(Village in) {
            if (in.workCount < 1) {
                return;
            }
            int each = WHOLE_TWELFTHS / in.workCount;
            for (int person = 0; person < in.personCount; person++) {
                if (each >= in.persons[person].least) {
                    for (int work = 0; work < in.workCount; work++) {
                        twelfths[person][work] = each;
                    }
                }
            }
        }

        void makeNeed(Village in, boolean isSparing) {
            for (int work = 0; work < in.workCount; work++) {
                for (int person = 0; person < in.personCount && !isDone(in, work); person++) {
                    int least = in.persons[person].least;
                    int free = WHOLE_TWELFTHS - used(person) - (isSparing ? least : 0);
                    twelfths[person][work] = needed(in, person, work, free);
                }
            }
        }

        int used(int person) {
            int sum = 0;
            for (int work = 0; work < MOST_WORKS; work++) {
                sum += twelfths[person][work];
            }
            return sum;
        }

        /** The twelfths that a person, with so many free, has at a work that is not done yet. */
        int needed(Village in, int person, int work, int free) {
            int least = in.persons[person].least;
            for (int some = least; some <= free; some++) {
                gather(after, in, work);
                after.add(person, in.persons[person], some, 0);
                if (after.isDone()) {
                    return some;
                }
            }
            return free >= least && helps(in, person, work, free) ? free : 0;
        }

        void gather(Effort into, Village in, int work) {
            into.begin(in.works[work]);
            for (int person = 0; person < in.personCount; person++) {
                if (twelfths[person][work] > 0) {
                    into.add(person, in.persons[person], twelfths[person][work], 0);
                }
            }
        }

        boolean isDone(Village in, int work) {
            gather(before, in, work);
            return before.isDone();
        }

        /** Whether more is done of something needed with so many twelfths of a person more. */
        boolean helps(Village in, int person, int work, int some) {
            gather(before, in, work);
            gather(after, in, work);
            after.add(person, in.persons[person], some, 0);
            for (int i = 0; i < GIFTS; i++) {
                if (before.needs[i] > 0 && after.sum(i) > before.sum(i)) {
                    return true;
                }
            }
            return false;
        }
    }

    /** The plan with most worth, of persons in quarters. */
    private static final class Quartering {
        static final int MOST = 3;
        static final int QUARTERS = 4;
        static final int QUARTER = 3;
        static final int HOWS = 35;
        static final int MIXES = 125;

        final int[][] hows;
        int howCount;
        final int[][] gains;
        final int[] chosen;
        final Effort effort;
        int worth;
        boolean isFound;

        Quartering() {
            hows = new int[HOWS][MOST];
            gains = new int[MOST][MIXES];
            chosen = new int[MOST];
            effort = new Effort();
        }

        static boolean fits(Village in) {
            return in.personCount <= MOST && in.workCount <= MOST;
        }

        /** What is told is another now. */
        void forget() {
            isFound = false;
        }

        int quartersAt(int person, int work) {
            if (person < 0 || person >= MOST || work < 0 || work >= MOST) {
                return 0;
            }
            return hows[chosen[person]][work];
        }

        void find(Village in) {
            // The search is long, and its outcome the same till more is told.
            if (isFound || !fits(in)) {
                return;
            }
            listHows(in.workCount);
            int most = 0;
            for (int work = 0; work < MOST; work++) {
                most += fillGains(in, work);
            }
            search(in.personCount, most);
            isFound = true;
        }

        /** Lists how one person's quarters can be at the works, in the order in which ties are broken. */
        void listHows(int works) {
            howCount = 0;
            for (int a = 0; a <= (works > 0 ? QUARTERS : 0); a++) {
                for (int b = 0; b <= (works > 1 ? QUARTERS - a : 0); b++) {
                    for (int c = 0; c <= (works > 2 ? QUARTERS - a - b : 0); c++) {
                        if (howCount < HOWS) {
                            hows[howCount][0] = a;
                            hows[howCount][1] = b;
                            hows[howCount][2] = c;
                            howCount++;
                        }
                    }
                }
            }
        }

        /** The worth of a work for each mix of three persons' quarters at it; the greatest of these. */
        int fillGains(Village in, int work) {
            int most = 0;
            for (int mix = 0; mix < MIXES; mix++) {
                gains[work][mix] = work < in.workCount ? gain(in, work, mix) : 0;
                most = Math.max(most, gains[work][mix]);
            }
            return most;
        }

        int gain(Village in, int work, int mix) {
            effort.begin(in.works[work]);
            int left = mix;
            for (int person = MOST - 1; person >= 0; person--) {
                int quarters = left % (QUARTERS + 1);
                left /= QUARTERS + 1;
                if (quarters > 0 && person < in.personCount) {
                    addQuarters(in, person, quarters);
                }
            }
            return effort.isDone() ? in.works[work].worth : 0;
        }

        void addQuarters(Village in, int person, int quarters) {
            int twelfths = quarters * QUARTER;
            if (twelfths < in.persons[person].least) {
                effort.stand(person);
            } else {
                effort.add(person, in.persons[person], twelfths, 0);
            }
        }

        void search(int persons, int most) {
            worth = -1;
            int firsts = persons > 0 ? howCount : 1;
            int seconds = persons > 1 ? howCount : 1;
            int thirds = persons > 2 ? howCount : 1;
            for (int a = 0; a < firsts && worth < most; a++) {
                for (int b = 0; b < seconds && worth < most; b++) {
                    for (int c = 0; c < thirds && worth < most; c++) {
                        int sum = worthOf(hows[a], hows[b], hows[c]);
                        if (sum > worth) {
                            worth = sum;
                            chosen[0] = a;
                            chosen[1] = b;
                            chosen[2] = c;
                        }
                    }
                }
            }
        }

        int worthOf(int[] first, int[] second, int[] third) {
            return gains[0][mix(first[0], second[0], third[0])]
                + gains[1][mix(first[1], second[1], third[1])]
                + gains[2][mix(first[2], second[2], third[2])];
        }

        static int mix(int first, int second, int third) {
            return (first * (QUARTERS + 1) + second) * (QUARTERS + 1) + third;
        }
    }

    /** Who must be whole, and who goes with whom. */
    private static final class Company {
        static final int SETS = 64;

        final boolean[] isAble;
        final boolean[] isEnough;
        final Effort effort;

        Company() {
            isAble = new boolean[SETS];
            isEnough = new boolean[SETS];
            effort = new Effort();
        }

        /** The fewest persons, as bits, who make all whole works done; NONE. */
        int fewestForWholes(Village in) {
            int sets = 1 << in.personCount;
            for (int set = 0; set < SETS; set++) {
                isAble[set] = set < sets;
            }
            for (int work = 0; work < in.workCount; work++) {
                if (in.works[work].kind == Work.WHOLE) {
                    fillEnough(in, in.works[work]);
                    share(sets);
                }
            }
            int fewest = NONE;
            for (int set = 0; set < SETS; set++) {
                if (isAble[set] && (fewest == NONE || Integer.bitCount(set) < Integer.bitCount(fewest))) {
                    fewest = set;
                }
            }
            return fewest;
        }

        /** Fills which sets of persons are enough for one work. */
        void fillEnough(Village in, Work work) {
            for (int set = 0; set < SETS; set++) {
                effort.begin(work);
                for (int person = 0; person < in.personCount; person++) {
                    if ((set >> person & 1) == 1) {
                        effort.add(person, in.persons[person], WHOLE_TWELFTHS, 0);
                    }
                }
                isEnough[set] = effort.isDone();
            }
        }

        /** Leaves able only the sets of which some do the work more and the others all before it. */
        void share(int sets) {
            // From above downwards: what is left of a set is then as it was before this work.
            for (int set = Math.min(sets, SETS) - 1; set >= 0; set--) {
                boolean isShared = false;
                for (int some = 0; some <= set && !isShared; some++) {
                    isShared = (some & ~set) == 0 && isEnough[some] && isAble[set & ~some];
                }
                isAble[set] = isShared;
            }
        }

        /** The two who, whole, do a work best: 10 times the lesser and the other; NONE. */
        int bestTwo(Village in, Work work) {
            int two = NONE;
            int above = 0;
            int below = 1;
            for (int one = 0; one < in.personCount; one++) {
                for (int other = one + 1; other < in.personCount; other++) {
                    effort.begin(work);
                    effort.add(one, in.persons[one], WHOLE_TWELFTHS, 0);
                    effort.add(other, in.persons[other], WHOLE_TWELFTHS, 0);
                    effort.weigh();
                    if (two == NONE || effort.above * below > above * effort.below) {
                        two = 10 * one + other;
                        above = effort.above;
                        below = effort.below;
                    }
                }
            }
            return two;
        }
    }
}
