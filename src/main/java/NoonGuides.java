/**
 * A glaring country where the blind lead at noon and the sighted by lamp: its text, its minutes,
 * who can go and lead where, the soonest ways, pairs, odds, days by draws, and marks.
 */
public final class NoonGuides {
    public static final int NONE = -1;

    private static final int NO_SUCH_TRAY = 1;
    private static final int NO_SUCH_ONE = 2;
    private static final int MISSING = 3;
    private static final int NOT_IN_TRAY = 4;
    private static final int BAD_NUMBER = 5;
    private static final int BELOW_ZERO = 6;
    private static final int TOO_MANY = 7;
    private static final int THERE_IS_NONE = 8;
    private static final int CANT_BE = 9;
    private static final int FAULTY = 10;
    private static final int UNLIKE_SORTS = 11;

    private static final int TRAY_COUNT = 4;
    private static final int MOST_NUMBERS = 60;
    private static final int TAPE_LENGTH = 900;
    private static final int DAYS_LENGTH = 300;
    private static final int MOST_PLACES = 8;
    private static final int MOST_ROADS = 12;
    private static final int MOST_PEOPLE = 8;
    private static final int MOST_STEPS = 30;
    private static final int MOST_MARKS = 3;
    private static final int LAST_MINUTE = 99999;
    private static final int LAST_SEED = 9999;
    private static final int DAY = 1440;
    private static final int LIVED_COUNT = 5;
    /** Later than any minute that can be come to; far below where adding to it would wrap round. */
    private static final int FAR = 1000000000;

    private final Tray[] trays = new Tray[TRAY_COUNT];
    private final byte[] tape = new byte[TAPE_LENGTH];
    private final Land[] markedLands = new Land[MOST_MARKS];
    private final int[] livedLast = new int[LIVED_COUNT];
    private final LandReader landReader = new LandReader();
    private final DaysReader daysReader = new DaysReader();
    private final Life life = new Life();
    private final Paths paths = new Paths();
    private final Pairing pairing = new Pairing();
    private final Hours otherHours = new Hours();
    private Land country = new Land();
    private Land spareLand = new Land();
    private Plan sparePlan = new Plan();
    private int taped;
    private int marks;
    private int lastStatus;
    private int faultKind = NONE;
    private int faultPlace = NONE;
    private long fractionTop;
    private long fractionBottom = 1;

    public NoonGuides() {
        for (int i = 0; i < TRAY_COUNT; i++) {
            trays[i] = new Tray();
        }
        for (int i = 0; i < MOST_MARKS; i++) {
            markedLands[i] = new Land();
        }
        livedLast[0] = NONE;
    }

    // ---- what a call tells

    public int status() {
        return lastStatus;
    }

    public long top() {
        return fractionTop;
    }

    public long bottom() {
        return fractionBottom;
    }

    private int tell(int answer) {
        lastStatus = 0;
        return answer;
    }

    private int tellOrNone(int answer) {
        return answer == NONE ? refuse(THERE_IS_NONE) : tell(answer);
    }

    private int tellSooner(int minutes) {
        return minutes >= FAR ? refuse(THERE_IS_NONE) : tell(minutes);
    }

    private int tellIf(boolean is) {
        return tell(is ? 1 : 0);
    }

    private int refuse(int why) {
        lastStatus = why;
        return NONE;
    }

    private boolean succeed() {
        lastStatus = 0;
        return true;
    }

    private boolean deny(int why) {
        lastStatus = why;
        return false;
    }

    private void setFraction(long top, long bottom) {
        long common = commonDivisor(top, bottom);
        if (common <= 0) {
            return;
        }
        fractionTop = top / common;
        fractionBottom = bottom / common;
    }

    /** Euclid's way ends within some 90 turns for any two longs. */
    private static long commonDivisor(long one, long other) {
        long greater = one;
        long less = other;
        for (int turn = 0; turn < 200 && less != 0; turn++) {
            long rest = greater % less;
            greater = less;
            less = rest;
        }
        return greater;
    }

    // ---- TRAYS

    public boolean tray(int tray, int sort, int many) {
        if (!isTray(tray) || sort < 0 || sort > 3) {
            return deny(NO_SUCH_TRAY);
        }
        if (many > MOST_NUMBERS) {
            return deny(BAD_NUMBER);
        }
        if (many < 0) {
            return deny(BELOW_ZERO);
        }
        trays[tray].begin(sort, many);
        return succeed();
    }

    public boolean write(int tray, int place, long v) {
        int why = whyNotInTray(tray, place);
        if (why != 0) {
            return deny(why);
        }
        trays[tray].put(place, v);
        return succeed();
    }

    public long read(int tray, int place) {
        int why = whyNotInTray(tray, place);
        if (why != 0) {
            return refuse(why);
        }
        lastStatus = 0;
        return trays[tray].numbers[place];
    }

    public boolean pour(int tray, int i, int to, int j, int many) {
        if (!isTray(tray) || !isTray(to)) {
            return deny(NO_SUCH_TRAY);
        }
        Tray source = trays[tray];
        Tray goal = trays[to];
        if (source.isMissing() || goal.isMissing()) {
            return deny(MISSING);
        }
        if (source.sort != goal.sort) {
            return deny(UNLIKE_SORTS);
        }
        if (many < 0) {
            return deny(BELOW_ZERO);
        }
        if (!source.hasRun(i, many) || !goal.hasRun(j, many)) {
            return deny(NOT_IN_TRAY);
        }
        System.arraycopy(source.numbers, i, goal.numbers, j, many);
        return succeed();
    }

    private static boolean isTray(int tray) {
        return tray >= 0 && tray < TRAY_COUNT;
    }

    private int whyNotInTray(int tray, int place) {
        if (!isTray(tray)) {
            return NO_SUCH_TRAY;
        }
        if (trays[tray].isMissing()) {
            return MISSING;
        }
        return trays[tray].hasRun(place, 1) ? 0 : NOT_IN_TRAY;
    }

    // ---- texts

    public int feed(int a, int b, int c, int d, int e) {
        if (taped + 20 > TAPE_LENGTH) {
            return NONE;
        }
        feedOne(a);
        feedOne(b);
        feedOne(c);
        feedOne(d);
        feedOne(e);
        return taped;
    }

    private void feedOne(int four) {
        for (int shift = 24; shift >= 0 && taped < TAPE_LENGTH; shift -= 8) {
            tape[taped] = (byte) (four >> shift);
            taped++;
        }
    }

    public int land(int n) {
        if (n < 0 || n > taped) {
            return refuse(BAD_NUMBER);
        }
        boolean taken = landReader.readInto(spareLand, tape, n);
        keepFault(landReader);
        if (!taken) {
            return refuse(FAULTY);
        }
        Land old = country;
        country = spareLand;
        spareLand = old;
        return tell(country.peopleCount);
    }

    public int days(int n) {
        if (n < 0 || n > taped || n > DAYS_LENGTH) {
            return refuse(BAD_NUMBER);
        }
        boolean taken = daysReader.readInto(sparePlan, country, tape, n);
        keepFault(daysReader);
        if (!taken) {
            return refuse(FAULTY);
        }
        Plan old = country.plan;
        country.plan = sparePlan;
        sparePlan = old;
        return tell(country.plan.steps);
    }

    private void keepFault(TextReader reader) {
        taped = 0;
        faultKind = reader.faultKind;
        faultPlace = reader.faultPlace;
    }

    public int fault(int what) {
        if (what == 0) {
            return faultKind;
        }
        return what == 1 ? faultPlace : NONE;
    }

    public int many(int what) {
        switch (what) {
            case 0: return tell(country.placeCount);
            case 1: return tell(country.roadCount);
            case 2: return tell(country.peopleCount);
            case 3: return tell(country.hours.from);
            case 4: return tell(country.hours.till);
            case 5: return tell(country.minute);
            case 6: return tell(country.rope);
            case 7: return tell(country.habit);
            case 8: return tell(country.odds);
            case 9: return tellIf(country.isGlaring(country.minute));
            case 10: return tellIf(country.cloudy);
            case 11: return tell(country.blindSet());
            case 12: return tell(country.walkingSet());
            case 13: return tell(country.ledSet());
            case 14: return tell(country.lostOfAll());
            default: return refuse(BAD_NUMBER);
        }
    }

    public int road(int road, int what) {
        if (!country.hasRoad(road)) {
            return refuse(NO_SUCH_ONE);
        }
        switch (what) {
            case 0: return tell(country.roadFrom[road]);
            case 1: return tell(country.roadTo[road]);
            case 2: return tell(country.roadMinutes[road]);
            case 3: return tellIf(country.roadSmells[road]);
            default: return refuse(BAD_NUMBER);
        }
    }

    public int roadOf(int place, int other) {
        if (!country.hasPlace(place) || !country.hasPlace(other)) {
            return refuse(NO_SUCH_ONE);
        }
        return tellOrNone(country.roadBetween(place, other));
    }

    public int person(int person, int what) {
        if (!country.hasPerson(person)) {
            return refuse(NO_SUCH_ONE);
        }
        Person one = country.people[person];
        switch (what) {
            case 0: return tellOrNone(one.place);
            case 1: return tellOrNone(one.goal);
            case 2: return tell(country.leftOf(person));
            case 3: return tellOrNone(one.leader);
            case 4: return tell(one.lost);
            case 5: return tellIf(one.hasGlasses);
            default: return refuse(BAD_NUMBER);
        }
    }

    public int gone(int person, int road) {
        if (!country.hasPerson(person) || !country.hasRoad(road)) {
            return refuse(NO_SUCH_ONE);
        }
        return tell(country.people[person].gone[road]);
    }

    public int owes(int person, int other) {
        int why = whyNoTwo(person, other);
        return why != 0 ? refuse(why) : tell(country.people[person].owes[other]);
    }

    public int net(int person) {
        if (!country.hasPerson(person)) {
            return refuse(NO_SUCH_ONE);
        }
        return tell(country.owedTo(person));
    }

    public int copyPlaces(int tray) {
        if (!isTray(tray)) {
            return refuse(NO_SUCH_TRAY);
        }
        Tray goal = trays[tray];
        if (goal.isMissing()) {
            return refuse(MISSING);
        }
        if (goal.length < country.peopleCount) {
            return refuse(NOT_IN_TRAY);
        }
        for (int i = 0; i < country.peopleCount; i++) {
            goal.put(i, country.people[i].place);
        }
        return tell(country.peopleCount);
    }

    private int whyNoTwo(int person, int other) {
        if (!country.hasPerson(person) || !country.hasPerson(other)) {
            return NO_SUCH_ONE;
        }
        return person == other ? CANT_BE : 0;
    }

    // ---- what is done

    public int passes(int minutes) {
        if (minutes < 1 || minutes > 999) {
            return refuse(BAD_NUMBER);
        }
        int came = country.passMinutes(minutes);
        return came == NONE ? refuse(TOO_MANY) : tell(came);
    }

    public int go(int person, int place) {
        if (!country.hasPerson(person) || !country.hasPlace(place)) {
            return refuse(NO_SUCH_ONE);
        }
        int left = country.setOut(person, 0, place);
        return left == NONE ? refuse(CANT_BE) : tell(left);
    }

    public int lead(int person, int people, int place) {
        if (!country.hasPerson(person) || !country.hasPlace(place)) {
            return refuse(NO_SUCH_ONE);
        }
        if (!country.isTeam(person, people)) {
            return refuse(BAD_NUMBER);
        }
        int left = country.setOut(person, people, place);
        return left == NONE ? refuse(CANT_BE) : tell(left);
    }

    public boolean turn(int person) {
        if (!country.hasPerson(person)) {
            return deny(NO_SUCH_ONE);
        }
        if (!country.people[person].isWalker()) {
            return deny(CANT_BE);
        }
        country.turnBack(person);
        return succeed();
    }

    public boolean cloud(boolean is) {
        if (country.cloudy == is) {
            return deny(CANT_BE);
        }
        country.cloudy = is;
        return succeed();
    }

    public boolean plant(int road, boolean is) {
        if (!country.hasRoad(road)) {
            return deny(NO_SUCH_ONE);
        }
        if (country.roadSmells[road] == is) {
            return deny(CANT_BE);
        }
        country.roadSmells[road] = is;
        return succeed();
    }

    public boolean glasses(int person, boolean is) {
        if (!country.hasPerson(person)) {
            return deny(NO_SUCH_ONE);
        }
        Person one = country.people[person];
        if (!one.sighted || one.hasGlasses == is) {
            return deny(CANT_BE);
        }
        one.hasGlasses = is;
        return succeed();
    }

    public boolean cure(int person, boolean sighted) {
        if (!country.hasPerson(person)) {
            return deny(NO_SUCH_ONE);
        }
        Person one = country.people[person];
        if (one.sighted == sighted) {
            return deny(CANT_BE);
        }
        one.sighted = sighted;
        one.hasGlasses = false;
        return succeed();
    }

    public int settle(int person, int other) {
        int why = whyNoTwo(person, other);
        if (why != 0) {
            return refuse(why);
        }
        int owed = country.people[person].owes[other];
        country.people[person].owes[other] = 0;
        country.people[other].owes[person] = 0;
        return tell(owed);
    }

    public boolean rule(int from, int till) {
        if (!Hours.canBe(from, till)) {
            return deny(BAD_NUMBER);
        }
        country.hours.set(from, till);
        return succeed();
    }

    // ---- who can

    public int glareAt(int minute) {
        if (minute < 0 || minute > LAST_MINUTE) {
            return refuse(BAD_NUMBER);
        }
        return tellIf(country.isGlaring(minute));
    }

    public int can(int person, int road) {
        if (!country.hasPerson(person) || !country.hasRoad(road)) {
            return refuse(NO_SUCH_ONE);
        }
        return tellIf(country.isAble(person, road));
    }

    public int guides(int place, int to) {
        if (!country.hasPlace(place) || !country.hasPlace(to)) {
            return refuse(NO_SUCH_ONE);
        }
        int road = country.roadBetween(place, to);
        return road == NONE ? refuse(CANT_BE) : tell(country.guideSet(place, road));
    }

    public int stuck() {
        return tell(country.stuckSet());
    }

    public int reach(int person) {
        int why = whyNotAtPlace(person);
        return why != 0 ? refuse(why) : tell(country.reachSet(person));
    }

    /** Glare begins and ends with an hour, so only the beginnings of hours are looked at. */
    public int nextGlare(int is) {
        if (is != 0 && is != 1) {
            return refuse(BAD_NUMBER);
        }
        for (int in = 0; in <= DAY; in += 60 - (country.minute + in) % 60) {
            if (country.isGlaring(country.minute + in) == (is == 1)) {
                return tell(in);
            }
        }
        return refuse(THERE_IS_NONE);
    }

    private int whyNotAtPlace(int person) {
        if (!country.hasPerson(person)) {
            return NO_SUCH_ONE;
        }
        return country.people[person].isAtPlace() ? 0 : CANT_BE;
    }

    // ---- ways

    public int soonest(int person, int place) {
        int why = whyNoWay(person, place);
        return why != 0 ? refuse(why) : tellSooner(paths.minutesTo(country, person, NONE, place));
    }

    public int soonestFirst(int person, int place) {
        int why = whyNoWay(person, place);
        if (why != 0) {
            return refuse(why);
        }
        if (country.people[person].place == place) {
            return refuse(CANT_BE);
        }
        return tellOrNone(paths.firstPlaceTo(country, person, place));
    }

    public int soonestTwo(int person, int other, int place) {
        if (!country.hasPlace(place)) {
            return refuse(NO_SUCH_ONE);
        }
        int why = whyNoTwoAtPlaces(person, other);
        if (why != 0) {
            return refuse(why);
        }
        if (country.people[person].place != country.people[other].place) {
            return refuse(CANT_BE);
        }
        return tellSooner(paths.minutesTo(country, person, other, place));
    }

    public int meet(int person, int other) {
        int why = whyNoTwoAtPlaces(person, other);
        if (why != 0) {
            return refuse(why);
        }
        paths.findMeeting(country, person, other);
        return tellOrNone(paths.meetingPlace);
    }

    public int meetIn(int person, int other) {
        int why = whyNoTwoAtPlaces(person, other);
        if (why != 0) {
            return refuse(why);
        }
        paths.findMeeting(country, person, other);
        return tellSooner(paths.meetingIn);
    }

    public int plants(int person, int place) {
        int why = whyNoPlanting(person, place);
        if (why != 0) {
            return refuse(why);
        }
        int cost = paths.plantingCost(country, person, place);
        return cost >= FAR ? refuse(THERE_IS_NONE) : tell(cost / Paths.ONE_ROAD);
    }

    public int plantSet(int person, int place) {
        int why = whyNoPlanting(person, place);
        if (why != 0) {
            return refuse(why);
        }
        int cost = paths.plantingCost(country, person, place);
        return cost >= FAR ? refuse(THERE_IS_NONE) : tell(cost % Paths.ONE_ROAD);
    }

    public long ways(int person, int place, int to, int n) {
        if (!country.hasPerson(person) || !country.hasPlace(place) || !country.hasPlace(to)) {
            return refuse(NO_SUCH_ONE);
        }
        if (n < 0 || n > 10) {
            return refuse(BAD_NUMBER);
        }
        lastStatus = 0;
        return paths.countWays(country, person, place, to, n);
    }

    private int whyNoWay(int person, int place) {
        return country.hasPlace(place) ? whyNotAtPlace(person) : NO_SUCH_ONE;
    }

    private int whyNoTwoAtPlaces(int person, int other) {
        int why = whyNoTwo(person, other);
        if (why != 0) {
            return why;
        }
        return Math.max(whyNotAtPlace(person), whyNotAtPlace(other));
    }

    private int whyNoPlanting(int person, int place) {
        int why = whyNoWay(person, place);
        if (why != 0) {
            return why;
        }
        return country.people[person].sighted ? CANT_BE : 0;
    }

    // ---- who with whom

    public int pair(int person) {
        if (!country.hasPerson(person)) {
            return refuse(NO_SUCH_ONE);
        }
        pairing.findPairs(country);
        return tellOrNone(pairing.partner[person]);
    }

    public int pairs() {
        pairing.findPairs(country);
        return tell(pairing.countPairs(country));
    }

    public int pairsOwe() {
        pairing.findPairs(country);
        return tell(pairing.sumOwed(country));
    }

    public int dearest(int person) {
        if (!country.hasPerson(person)) {
            return refuse(NO_SUCH_ONE);
        }
        return tellOrNone(country.mostOwedBy(person));
    }

    // ---- odds, other hours

    public boolean clouds(int n, int k) {
        if (n < 0 || n > 12 || k < 0 || k > 12) {
            return deny(BAD_NUMBER);
        }
        long top = 0;
        for (int cloudyDays = k; cloudyDays <= n; cloudyDays++) {
            top += choices(n, cloudyDays) * power(country.odds, cloudyDays)
                    * power(16 - country.odds, n - cloudyDays);
        }
        setFraction(top, power(16, n));
        return succeed();
    }

    private static long choices(int n, int k) {
        long many = 1;
        for (int i = 1; i <= k; i++) {
            many = many * (n - k + i) / i;
        }
        return many;
    }

    private static long power(int base, int exponent) {
        long product = 1;
        for (int i = 0; i < exponent; i++) {
            product *= base;
        }
        return product;
    }

    public int lostIn(int minutes) {
        if (minutes < 0 || minutes > 999) {
            return refuse(BAD_NUMBER);
        }
        return tell(country.lostWithin(minutes, country.hours));
    }

    public int lostBy(int minutes, int from, int till) {
        if (minutes < 0 || minutes > 999 || !Hours.canBe(from, till)) {
            return refuse(BAD_NUMBER);
        }
        otherHours.set(from, till);
        return tell(country.lostWithin(minutes, otherHours));
    }

    public int bestFrom(int minutes) {
        if (minutes < 0 || minutes > 999) {
            return refuse(BAD_NUMBER);
        }
        int length = country.hours.till - country.hours.from;
        int best = 0;
        int fewest = FAR;
        for (int from = 0; from <= 23; from++) {
            otherHours.set(from, Math.min(24, from + length));
            int lost = country.lostWithin(minutes, otherHours);
            if (lost < fewest) {
                fewest = lost;
                best = from;
            }
        }
        return tell(best);
    }

    public int arrives(int person) {
        if (!country.hasPerson(person)) {
            return refuse(NO_SUCH_ONE);
        }
        if (country.people[person].isAtPlace()) {
            return refuse(CANT_BE);
        }
        int minutes = country.minutesToGoal(person);
        return minutes > 9999 ? refuse(THERE_IS_NONE) : tell(minutes);
    }

    // ---- DAYS

    public int live(int seed) {
        if (seed < 0 || seed > LAST_SEED) {
            return refuse(BAD_NUMBER);
        }
        if (!country.plan.isTold) {
            return refuse(THERE_IS_NONE);
        }
        life.run(country, seed);
        livedLast[0] = life.missed;
        livedLast[1] = life.minutes;
        livedLast[2] = life.arrivals;
        livedLast[3] = life.lost;
        livedLast[4] = life.isCutOff ? 1 : 0;
        return tell(life.steps);
    }

    public int lived(int what) {
        if (what < 0 || what >= LIVED_COUNT) {
            return refuse(BAD_NUMBER);
        }
        return livedLast[0] == NONE ? refuse(THERE_IS_NONE) : tell(livedLast[what]);
    }

    public boolean mean(int seed, int many) {
        if (seed < 0 || many < 1 || many > 20 || seed > LAST_SEED - many + 1) {
            return deny(BAD_NUMBER);
        }
        if (!country.plan.isTold) {
            return deny(THERE_IS_NONE);
        }
        long sum = 0;
        for (int i = 0; i < many; i++) {
            spareLand.copyFrom(country);
            life.run(spareLand, seed + i);
            sum += spareLand.lostOfAll();
        }
        setFraction(sum, many);
        return succeed();
    }

    // ---- MARKS

    public int mark() {
        if (marks >= MOST_MARKS) {
            return refuse(TOO_MANY);
        }
        markedLands[marks].copyFrom(country);
        marks++;
        return tell(marks);
    }

    public int back() {
        if (marks < 1) {
            return refuse(THERE_IS_NONE);
        }
        marks--;
        country.copyFrom(markedLands[marks]);
        return tell(marks);
    }

    /** A row of numbers that are cut to so many bits. */
    private static final class Tray {
        final long[] numbers = new long[MOST_NUMBERS];
        int sort;
        int length = NONE;

        boolean isMissing() {
            return length == NONE;
        }

        void begin(int newSort, int many) {
            sort = newSort;
            length = many;
            for (int i = 0; i < MOST_NUMBERS; i++) {
                numbers[i] = 0;
            }
        }

        /** Subtracts rather than adds, so that great numbers do not wrap round. */
        boolean hasRun(int place, int many) {
            return place >= 0 && place <= length && many <= length - place;
        }

        void put(int place, long v) {
            if (place >= 0 && place < length) {
                numbers[place] = cut(v);
            }
        }

        private long cut(long v) {
            switch (sort) {
                case 0: return (byte) v;
                case 1: return (short) v;
                case 2: return (int) v;
                default: return v;
            }
        }
    }

    /** The hours of glare in a day, and how somebody gets on by them. */
    private static final class Hours {
        static final int ALWAYS = 0;
        static final int BY_CLEAR_LIGHT = 1;
        static final int NEVER = 2;

        int from = 10;
        int till = 16;
        private int glareADay = 360;

        static boolean canBe(int from, int till) {
            return from >= 0 && from <= 23 && till > from && till <= 24;
        }

        void set(int newFrom, int newTill) {
            from = newFrom;
            till = newTill;
            glareADay = (till - from) * 60;
        }

        boolean areGlaring(int minute) {
            int hour = minute / 60 % 24;
            return from <= hour && hour < till;
        }

        /** How many minutes of glare there are from minute 0 on, ahead of a minute. */
        private int glareBefore(int minute) {
            int today = minute % DAY - from * 60;
            if (today < 0) {
                today = 0;
            }
            return minute / DAY * glareADay + (today < glareADay ? today : glareADay);
        }

        /** In how many of so many minutes somebody of a pace gets on. */
        int movedIn(int pace, int start, int many) {
            if (pace == NEVER) {
                return 0;
            }
            if (pace == ALWAYS) {
                return many;
            }
            return many - glareBefore(start + many) + glareBefore(start);
        }

        /** The minute at which somebody of a pace has got on for so many (1 at least), or FAR. */
        int doneAt(int pace, int start, int many) {
            if (pace == NEVER || start >= FAR) {
                return FAR;
            }
            if (pace == ALWAYS) {
                return start + many;
            }
            int clearADay = DAY - glareADay;
            if (clearADay <= 0) {
                return FAR;
            }
            int lastMove = start - glareBefore(start) + many - 1;
            int inDay = lastMove % clearADay + 1;
            int shift = inDay <= from * 60 ? 0 : glareADay;
            return lastMove / clearADay * DAY + inDay + shift;
        }
    }

    /** One of the people: at a place, or on a road from an origin to a goal. */
    private static final class Person {
        final int[] gone = new int[MOST_ROADS];
        final int[] owes = new int[MOST_PEOPLE];
        long name;
        boolean sighted;
        boolean hasGlasses;
        int place = NONE;
        int road = NONE;
        int origin = NONE;
        int goal = NONE;
        int leader = NONE;
        int left;
        int lost;

        void begin(long newName, boolean isSighted, boolean withGlasses, int where) {
            name = newName;
            sighted = isSighted;
            hasGlasses = withGlasses;
            lost = 0;
            stayAt(where);
            for (int i = 0; i < MOST_ROADS; i++) {
                gone[i] = 0;
            }
            for (int i = 0; i < MOST_PEOPLE; i++) {
                owes[i] = 0;
            }
        }

        void copyFrom(Person other) {
            System.arraycopy(other.gone, 0, gone, 0, MOST_ROADS);
            System.arraycopy(other.owes, 0, owes, 0, MOST_PEOPLE);
            name = other.name;
            sighted = other.sighted;
            hasGlasses = other.hasGlasses;
            place = other.place;
            road = other.road;
            origin = other.origin;
            goal = other.goal;
            leader = other.leader;
            left = other.left;
            lost = other.lost;
        }

        boolean isAtPlace() {
            return place != NONE;
        }

        boolean isWalker() {
            return place == NONE && leader == NONE;
        }

        void stayAt(int where) {
            place = where;
            road = NONE;
            origin = NONE;
            goal = NONE;
            leader = NONE;
            left = 0;
        }

        void leaveBy(int newRoad, int newGoal, int newLeader, int minutes) {
            origin = place;
            place = NONE;
            road = newRoad;
            goal = newGoal;
            leader = newLeader;
            left = minutes;
        }
    }

    /** The country as its text tells it, with all that became of it. */
    private static final class Land {
        final long[] placeNames = new long[MOST_PLACES];
        final int[] roadFrom = new int[MOST_ROADS];
        final int[] roadTo = new int[MOST_ROADS];
        final int[] roadMinutes = new int[MOST_ROADS];
        final boolean[] roadSmells = new boolean[MOST_ROADS];
        final Person[] people = new Person[MOST_PEOPLE];
        final Hours hours = new Hours();
        Plan plan = new Plan();
        int placeCount;
        int roadCount;
        int peopleCount;
        int minute = 480;
        int rope = 9;
        int habit = 3;
        int odds = 4;
        boolean cloudy;

        Land() {
            for (int i = 0; i < MOST_PEOPLE; i++) {
                people[i] = new Person();
            }
        }

        void clear() {
            placeCount = 0;
            roadCount = 0;
            peopleCount = 0;
            hours.set(10, 16);
            minute = 480;
            rope = 9;
            habit = 3;
            odds = 4;
            cloudy = false;
            plan.clear();
        }

        void copyFrom(Land other) {
            placeCount = other.placeCount;
            roadCount = other.roadCount;
            peopleCount = other.peopleCount;
            hours.set(other.hours.from, other.hours.till);
            minute = other.minute;
            rope = other.rope;
            habit = other.habit;
            odds = other.odds;
            cloudy = other.cloudy;
            plan.copyFrom(other.plan);
            System.arraycopy(other.placeNames, 0, placeNames, 0, MOST_PLACES);
            System.arraycopy(other.roadFrom, 0, roadFrom, 0, MOST_ROADS);
            System.arraycopy(other.roadTo, 0, roadTo, 0, MOST_ROADS);
            System.arraycopy(other.roadMinutes, 0, roadMinutes, 0, MOST_ROADS);
            for (int i = 0; i < MOST_ROADS; i++) {
                roadSmells[i] = other.roadSmells[i];
            }
            for (int i = 0; i < MOST_PEOPLE; i++) {
                people[i].copyFrom(other.people[i]);
            }
        }

        void addPlace(long name) {
            if (placeCount < MOST_PLACES) {
                placeNames[placeCount] = name;
                placeCount++;
            }
        }

        void addRoad(int from, int to, int minutes, boolean smells) {
            if (roadCount < MOST_ROADS) {
                roadFrom[roadCount] = from;
                roadTo[roadCount] = to;
                roadMinutes[roadCount] = minutes;
                roadSmells[roadCount] = smells;
                roadCount++;
            }
        }

        void addPerson(long name, boolean sighted, boolean withGlasses, int place) {
            if (peopleCount < MOST_PEOPLE) {
                people[peopleCount].begin(name, sighted, withGlasses, place);
                peopleCount++;
            }
        }

        boolean hasPlace(int place) {
            return place >= 0 && place < placeCount;
        }

        boolean hasRoad(int road) {
            return road >= 0 && road < roadCount;
        }

        boolean hasPerson(int person) {
            return person >= 0 && person < peopleCount;
        }

        int placeNamed(long name) {
            for (int i = 0; i < placeCount; i++) {
                if (placeNames[i] == name) {
                    return i;
                }
            }
            return NONE;
        }

        int personNamed(long name) {
            for (int i = 0; i < peopleCount; i++) {
                if (people[i].name == name) {
                    return i;
                }
            }
            return NONE;
        }

        /** Where a road leads from a place; NONE if it does not begin there. */
        int otherEnd(int road, int place) {
            if (roadFrom[road] == place) {
                return roadTo[road];
            }
            return roadTo[road] == place ? roadFrom[road] : NONE;
        }

        int roadBetween(int place, int other) {
            for (int i = 0; i < roadCount; i++) {
                if (otherEnd(i, place) == other) {
                    return i;
                }
            }
            return NONE;
        }

        int placeOf(int person) {
            return hasPerson(person) ? people[person].place : NONE;
        }

        int minutesLost(int person) {
            return hasPerson(person) ? people[person].lost : 0;
        }

        boolean isGlaring(int when) {
            return !cloudy && hours.areGlaring(when);
        }

        int paceOf(int person, int road) {
            Person one = people[person];
            if (one.sighted) {
                return one.hasGlasses || cloudy ? Hours.ALWAYS : Hours.BY_CLEAR_LIGHT;
            }
            return roadSmells[road] || one.gone[road] >= habit ? Hours.ALWAYS : Hours.NEVER;
        }

        boolean isAble(int person, int road) {
            int pace = paceOf(person, road);
            return pace == Hours.ALWAYS
                    || (pace == Hours.BY_CLEAR_LIGHT && !hours.areGlaring(minute));
        }

        /** The minute at which one who waits at a road's end from a minute on is at the other. */
        int arrivalBy(int person, int road, int start) {
            return hours.doneAt(paceOf(person, road), start, roadMinutes[road]);
        }

        boolean isTeam(int leader, int set) {
            return set > 0 && set < 1 << peopleCount && (set & 1 << leader) == 0
                    && Integer.bitCount(set) <= rope;
        }

        /** One goes, and leads a set of others if there are any: the minutes left, or NONE. */
        int setOut(int person, int set, int place) {
            int from = placeOf(person);
            int road = hasPlace(from) ? roadBetween(from, place) : NONE;
            if (!hasRoad(road) || !isAble(person, road) || !areAllAt(set, from)) {
                return NONE;
            }
            for (int i = 0; i < peopleCount; i++) {
                if ((set & 1 << i) != 0) {
                    people[i].leaveBy(road, place, person, roadMinutes[road]);
                }
            }
            people[person].leaveBy(road, place, NONE, roadMinutes[road]);
            return roadMinutes[road];
        }

        private boolean areAllAt(int set, int place) {
            for (int i = 0; i < peopleCount; i++) {
                if ((set & 1 << i) != 0 && people[i].place != place) {
                    return false;
                }
            }
            return true;
        }

        private boolean isWith(int person, int leader) {
            return person == leader || people[person].leader == leader;
        }

        void turnBack(int leader) {
            for (int i = 0; i < peopleCount; i++) {
                if (isWith(i, leader)) {
                    people[i].stayAt(people[i].origin);
                }
            }
        }

        /** Who walks is led by nobody, so only he keeps count of what is left. */
        int leftOf(int person) {
            int leader = people[person].leader;
            return hasPerson(leader) ? people[leader].left : people[person].left;
        }

        int minutesToGoal(int person) {
            int leader = people[person].leader;
            int walker = hasPerson(leader) ? leader : person;
            int road = people[walker].road;
            if (!hasRoad(road)) {
                return FAR;
            }
            int done = hours.doneAt(paceOf(walker, road), minute, people[walker].left);
            return done >= FAR ? FAR : done - minute;
        }

        /**
         * Minutes go by: the set of people who came to a place; NONE if there are not so many. What
         * one walker does is nothing to the others, so each is taken through all of them at once.
         */
        int passMinutes(int minutes) {
            if (minute + minutes > LAST_MINUTE) {
                return NONE;
            }
            int came = 0;
            for (int i = 0; i < peopleCount; i++) {
                if (people[i].isWalker()) {
                    came |= passWalker(i, minutes);
                }
            }
            minute += minutes;
            return came;
        }

        private int passWalker(int walker, int minutes) {
            int lost = lostOf(walker, minutes, hours);
            for (int i = 0; i < peopleCount; i++) {
                if (isWith(i, walker)) {
                    people[i].lost += lost;
                }
            }
            if (minutesToGoal(walker) <= minutes) {
                return arrive(walker);
            }
            people[walker].left -= minutes - lost;
            return 0;
        }

        private int arrive(int walker) {
            int came = 0;
            int road = people[walker].road;
            for (int i = 0; i < peopleCount && hasRoad(road); i++) {
                if (isWith(i, walker)) {
                    people[i].gone[road] = Math.min(99, people[i].gone[road] + 1);
                    if (i != walker) {
                        addDebt(i, walker, roadMinutes[road]);
                    }
                    people[i].stayAt(people[i].goal);
                    came |= 1 << i;
                }
            }
            return came;
        }

        private void addDebt(int person, int other, int minutes) {
            int debt = Math.min(9999, people[person].owes[other] + minutes);
            people[person].owes[other] = debt;
            people[other].owes[person] = -debt;
        }

        /** In how many of the next minutes a walker would stand lost by some hours of glare. */
        private int lostOf(int walker, int minutes, Hours by) {
            int road = people[walker].road;
            if (!hasRoad(road)) {
                return 0;
            }
            int pace = paceOf(walker, road);
            int left = people[walker].left;
            int need = by.doneAt(pace, minute, left) - minute;
            return need <= minutes ? need - left : minutes - by.movedIn(pace, minute, minutes);
        }

        /** Minutes lost by all in the next so many, those who are led too. */
        int lostWithin(int minutes, Hours by) {
            int sum = 0;
            for (int i = 0; i < peopleCount; i++) {
                int leader = people[i].leader;
                sum += lostOf(hasPerson(leader) ? leader : i, minutes, by);
            }
            return sum;
        }

        int lostOfAll() {
            int sum = 0;
            for (int i = 0; i < peopleCount; i++) {
                sum += people[i].lost;
            }
            return sum;
        }

        int owedTo(int person) {
            int sum = 0;
            for (int i = 0; i < peopleCount; i++) {
                sum += people[i].owes[person];
            }
            return sum;
        }

        int mostOwedBy(int person) {
            int best = NONE;
            int most = 0;
            for (int i = 0; i < peopleCount; i++) {
                if (people[person].owes[i] > most) {
                    most = people[person].owes[i];
                    best = i;
                }
            }
            return best;
        }

        int blindSet() {
            int set = 0;
            for (int i = 0; i < peopleCount; i++) {
                set |= people[i].sighted ? 0 : 1 << i;
            }
            return set;
        }

        int walkingSet() {
            int set = 0;
            for (int i = 0; i < peopleCount; i++) {
                set |= people[i].isAtPlace() ? 0 : 1 << i;
            }
            return set;
        }

        int ledSet() {
            int set = 0;
            for (int i = 0; i < peopleCount; i++) {
                set |= people[i].leader == NONE ? 0 : 1 << i;
            }
            return set;
        }

        int guideSet(int place, int road) {
            int set = 0;
            for (int i = 0; i < peopleCount; i++) {
                if (people[i].place == place && isAble(i, road)) {
                    set |= 1 << i;
                }
            }
            return set;
        }

        int stuckSet() {
            int set = 0;
            for (int i = 0; i < peopleCount; i++) {
                if (people[i].isAtPlace() && !canLeave(i)) {
                    set |= 1 << i;
                }
            }
            return set;
        }

        private boolean canLeave(int person) {
            for (int i = 0; i < roadCount; i++) {
                if (otherEnd(i, people[person].place) != NONE && isAble(person, i)) {
                    return true;
                }
            }
            return false;
        }

        int reachSet(int person) {
            if (!people[person].isAtPlace()) {
                return 0;
            }
            int set = 1 << people[person].place;
            for (int round = 1; round < placeCount; round++) {
                for (int i = 0; i < roadCount; i++) {
                    int ends = 1 << roadFrom[i] | 1 << roadTo[i];
                    if ((set & ends) != 0 && isAble(person, i)) {
                        set |= ends;
                    }
                }
            }
            return set;
        }
    }

    /** Tokens of a text, taken one by one, up to the first fault. */
    private abstract static class TextReader {
        static final int END_OF_TEXT = 0;
        static final int WORD = 1;
        static final int NUMBER = 2;
        static final int SIGN = 3;
        static final int NO_TOKEN = 4;

        static final int GLARE = 0;
        static final int TO = 1;
        static final int CLOCK = 2;
        static final int ROPE = 3;
        static final int HABIT = 4;
        static final int ODDS = 5;
        static final int PLACE = 6;
        static final int ROAD = 7;
        static final int MINUTES = 8;
        static final int SMELLS = 9;
        static final int SIGHTED = 10;
        static final int AT = 11;
        static final int GLASSES = 12;
        static final int BLIND = 13;
        static final int KNOWS = 14;
        static final int WAIT = 15;
        static final int GO = 16;
        static final int LEAD = 17;
        static final int ANY = 18;
        static final int CLOUD = 19;
        static final int CLEAR = 20;
        static final int WHEN = 21;
        static final int LOST = 22;
        static final int LOOP = 23;
        static final int END = 24;
        static final int STOP = 25;
        private static final int KEYWORDS = 26;
        /** In the order of the numbers above. */
        private static final String KEYWORD_LIST =
                "glare to clock rope habit odds place road minutes smells sighted at glasses blind knows wait go lead any cloud clear when lost loop end stop ";

        static final int FAULT_TOKEN = 1;
        static final int FAULT_ORDER = 2;
        static final int FAULT_NAME = 3;
        static final int FAULT_NUMBER = 4;
        static final int FAULT_TWICE = 5;
        static final int FAULT_MANY = 6;
        static final int FAULT_DEEP = 7;

        private final long[] keywords = new long[KEYWORDS];
        private byte[] text = new byte[0];
        private int length;
        private int next;
        int faultKind;
        int faultPlace = NONE;
        /** The token that stands next: its kind, and what goes with that. */
        int kind;
        int keyword = NONE;
        int value;
        long name;
        private int start;
        private int takenAt;

        TextReader() {
            int found = 0;
            long code = 0;
            for (int i = 0; i < KEYWORD_LIST.length() && found < KEYWORDS; i++) {
                char letter = KEYWORD_LIST.charAt(i);
                if (letter == ' ') {
                    keywords[found] = code;
                    found++;
                    code = 0;
                } else {
                    code = code * 32 + letter - 'a' + 1;
                }
            }
        }

        void begin(byte[] bytes, int many) {
            text = bytes;
            length = Math.min(many, bytes.length);
            next = 0;
            takenAt = 0;
            faultKind = 0;
            faultPlace = NONE;
            advance();
        }

        private void advance() {
            takenAt = start;
            while (next < length && (text[next] == 32 || text[next] == 10)) {
                next++;
            }
            start = next;
            keyword = NONE;
            name = 0;
            value = 0;
            if (next >= length) {
                kind = END_OF_TEXT;
                return;
            }
            int sign = text[next];
            if (sign >= 'a' && sign <= 'z') {
                scanWord();
            } else if (sign >= '0' && sign <= '9') {
                scanNumber();
            } else {
                value = sign;
                next++;
                boolean isSign = sign == ';' || sign == '<' || sign == '>' || sign == '=';
                kind = isSign ? SIGN : NO_TOKEN;
            }
        }

        /** A word of more than 8 letters is no keyword and no name. */
        private void scanWord() {
            kind = WORD;
            long code = 0;
            while (next < length && text[next] >= 'a' && text[next] <= 'z') {
                if (next - start < 8) {
                    code = code * 32 + text[next] - 'a' + 1;
                }
                next++;
            }
            if (next - start > 8) {
                return;
            }
            for (int i = 0; i < KEYWORDS; i++) {
                if (keywords[i] == code) {
                    keyword = i;
                    return;
                }
            }
            name = code;
        }

        private void scanNumber() {
            while (next < length && text[next] >= '0' && text[next] <= '9') {
                if (next - start < 4) {
                    value = value * 10 + text[next] - '0';
                }
                next++;
            }
            kind = next - start > 4 ? NO_TOKEN : NUMBER;
        }

        /** A fault at the token that stands next. */
        boolean fail(int fault) {
            faultKind = fault;
            faultPlace = start;
            return false;
        }

        /** A fault at the token that was taken last. */
        boolean failTaken(int fault) {
            faultKind = fault;
            faultPlace = takenAt;
            return false;
        }

        boolean failOrder() {
            return fail(kind == NO_TOKEN ? FAULT_TOKEN : FAULT_ORDER);
        }

        boolean isAtEnd() {
            return kind == END_OF_TEXT;
        }

        void skip() {
            advance();
        }

        boolean skipWord(int word) {
            if (keyword != word) {
                return false;
            }
            advance();
            return true;
        }

        boolean takeWord(int word) {
            return skipWord(word) || failOrder();
        }

        boolean takeSemicolon() {
            if (kind != SIGN || value != ';') {
                return failOrder();
            }
            advance();
            return true;
        }

        /** The sign, or NONE. */
        int takeComparison() {
            if (kind != SIGN || value == ';') {
                failOrder();
                return NONE;
            }
            int sign = value;
            advance();
            return sign;
        }

        /** The number, or NONE. */
        int takeNumber(int least, int most) {
            if (kind != NUMBER) {
                failOrder();
                return NONE;
            }
            if (value < least || value > most) {
                fail(FAULT_NUMBER);
                return NONE;
            }
            int number = value;
            advance();
            return number;
        }

        /** The name's code, or 0. */
        long takeNewName(Land land) {
            if (name == 0) {
                failOrder();
                return 0;
            }
            if (land.placeNamed(name) != NONE || land.personNamed(name) != NONE) {
                fail(FAULT_NAME);
                return 0;
            }
            long code = name;
            advance();
            return code;
        }

        /** The number of the place, or NONE. */
        int takePlace(Land land) {
            return takeKnown(land.placeNamed(name));
        }

        /** The number of the person, or NONE. */
        int takePerson(Land land) {
            return takeKnown(land.personNamed(name));
        }

        private int takeKnown(int number) {
            if (name == 0) {
                failOrder();
                return NONE;
            }
            if (number == NONE) {
                fail(FAULT_NAME);
                return NONE;
            }
            advance();
            return number;
        }
    }

    /** Reads the text of a land. */
    private static final class LandReader extends TextReader {
        private int toldOnce;
        private boolean toldKnows;

        boolean readInto(Land land, byte[] bytes, int many) {
            land.clear();
            toldOnce = 0;
            toldKnows = false;
            begin(bytes, many);
            for (int part = 0; part < TAPE_LENGTH && !isAtEnd(); part++) {
                if (!readPart(land)) {
                    return false;
                }
            }
            return true;
        }

        private boolean readPart(Land land) {
            switch (keyword) {
                case GLARE: return startOnce() && readGlare(land);
                case CLOCK: return startOnce() && readClock(land);
                case ROPE: return startOnce() && readRope(land);
                case HABIT: return startOnce() && readHabit(land);
                case ODDS: return startOnce() && readOdds(land);
                case PLACE: return start(land.placeCount, MOST_PLACES) && readPlace(land);
                case ROAD: return start(land.roadCount, MOST_ROADS) && readRoad(land);
                case SIGHTED: return start(land.peopleCount, MOST_PEOPLE) && readPerson(land, true);
                case BLIND: return start(land.peopleCount, MOST_PEOPLE) && readPerson(land, false);
                case KNOWS: return readKnows(land);
                default: return failOrder();
            }
        }

        private boolean startOnce() {
            int bit = 1 << keyword;
            if ((toldOnce & bit) != 0 || (keyword == HABIT && toldKnows)) {
                return fail(FAULT_TWICE);
            }
            toldOnce |= bit;
            skip();
            return true;
        }

        private boolean start(int many, int most) {
            if (many >= most) {
                return fail(FAULT_MANY);
            }
            skip();
            return true;
        }

        private boolean readGlare(Land land) {
            int from = takeNumber(0, 23);
            if (from == NONE || !takeWord(TO)) {
                return false;
            }
            int till = takeNumber(from + 1, 24);
            if (till == NONE) {
                return false;
            }
            land.hours.set(from, till);
            return takeSemicolon();
        }

        private boolean readClock(Land land) {
            land.minute = takeNumber(0, DAY - 1);
            return land.minute != NONE && takeSemicolon();
        }

        private boolean readRope(Land land) {
            land.rope = takeNumber(1, 9);
            return land.rope != NONE && takeSemicolon();
        }

        private boolean readHabit(Land land) {
            land.habit = takeNumber(1, 9);
            return land.habit != NONE && takeSemicolon();
        }

        private boolean readOdds(Land land) {
            land.odds = takeNumber(0, 16);
            return land.odds != NONE && takeSemicolon();
        }

        private boolean readPlace(Land land) {
            long newName = takeNewName(land);
            if (newName == 0) {
                return false;
            }
            land.addPlace(newName);
            return takeSemicolon();
        }

        private boolean readRoad(Land land) {
            int from = takePlace(land);
            int to = from == NONE ? NONE : takePlace(land);
            if (to == NONE) {
                return false;
            }
            if (from == to || land.roadBetween(from, to) != NONE) {
                return failTaken(FAULT_TWICE);
            }
            int minutes = takeWord(MINUTES) ? takeNumber(1, 99) : NONE;
            if (minutes == NONE) {
                return false;
            }
            land.addRoad(from, to, minutes, skipWord(SMELLS));
            return takeSemicolon();
        }

        private boolean readPerson(Land land, boolean sighted) {
            long newName = takeNewName(land);
            if (newName == 0 || !takeWord(AT)) {
                return false;
            }
            int place = takePlace(land);
            if (place == NONE) {
                return false;
            }
            land.addPerson(newName, sighted, sighted && skipWord(GLASSES), place);
            return takeSemicolon();
        }

        private boolean readKnows(Land land) {
            toldKnows = true;
            skip();
            int person = takePerson(land);
            int from = person == NONE ? NONE : takePlace(land);
            int to = from == NONE ? NONE : takePlace(land);
            if (to == NONE) {
                return false;
            }
            int road = land.roadBetween(from, to);
            if (road == NONE) {
                return failTaken(FAULT_NAME);
            }
            land.people[person].gone[road] = land.habit;
            return takeSemicolon();
        }
    }

    /** The steps of the days as rows; an end is a row too, and knows where it began. */
    private static final class Plan {
        static final int ROWS = 2 * MOST_STEPS;
        static final int WAIT = 0;
        static final int GO = 1;
        static final int LEAD = 2;
        static final int ANY = 3;
        static final int CLOUD = 4;
        static final int CLEAR = 5;
        static final int WHEN_AT = 6;
        static final int WHEN_GLARE = 7;
        static final int WHEN_LOST = 8;
        static final int LOOP = 9;
        static final int END = 10;
        static final int STOP = 11;

        final int[] kinds = new int[ROWS];
        final int[] first = new int[ROWS];
        final int[] second = new int[ROWS];
        final int[] third = new int[ROWS];
        /** Of a when or loop the row of its end, of an end the row where it began. */
        final int[] partner = new int[ROWS];
        int rows;
        int steps;
        boolean isTold;

        void clear() {
            rows = 0;
            steps = 0;
            isTold = false;
        }

        void copyFrom(Plan other) {
            System.arraycopy(other.kinds, 0, kinds, 0, ROWS);
            System.arraycopy(other.first, 0, first, 0, ROWS);
            System.arraycopy(other.second, 0, second, 0, ROWS);
            System.arraycopy(other.third, 0, third, 0, ROWS);
            System.arraycopy(other.partner, 0, partner, 0, ROWS);
            rows = other.rows;
            steps = other.steps;
            isTold = other.isTold;
        }

        boolean add(int kind, int a, int b, int c) {
            if (rows >= ROWS) {
                return false;
            }
            kinds[rows] = kind;
            first[rows] = a;
            second[rows] = b;
            third[rows] = c;
            partner[rows] = rows;
            rows++;
            if (kind != END) {
                steps++;
            }
            return true;
        }

        /** The row added last is the end of what began in a row. */
        void close(int begun) {
            int end = rows - 1;
            if (begun >= 0 && begun < end && end < ROWS) {
                partner[begun] = end;
                partner[end] = begun;
            }
        }
    }

    /** Reads the text of days. */
    private static final class DaysReader extends TextReader {
        private static final int MOST_DEPTH = 3;

        /** The rows of the whens and loops that have no end yet. */
        private final int[] open = new int[MOST_DEPTH];
        private int depth;

        boolean readInto(Plan plan, Land land, byte[] bytes, int many) {
            plan.clear();
            depth = 0;
            begin(bytes, many);
            for (int step = 0; step < DAYS_LENGTH && !isAtEnd(); step++) {
                boolean isRead = keyword == END ? readEnd(plan) : readStep(plan, land);
                if (!isRead) {
                    return false;
                }
            }
            if (depth > 0) {
                return failOrder();
            }
            plan.isTold = true;
            return true;
        }

        private boolean readEnd(Plan plan) {
            if (depth <= 0 || depth > MOST_DEPTH) {
                return failOrder();
            }
            depth--;
            skip();
            plan.add(Plan.END, 0, 0, 0);
            plan.close(open[depth]);
            return takeSemicolon();
        }

        private boolean readStep(Plan plan, Land land) {
            switch (keyword) {
                case WAIT: return start(plan) && readNumberStep(plan, Plan.WAIT, 600);
                case GO: return start(plan) && readGo(plan, land);
                case LEAD: return start(plan) && readLead(plan, land);
                case ANY: return start(plan) && addStep(plan, Plan.ANY, 0, 0, 0);
                case CLOUD: return start(plan) && addStep(plan, Plan.CLOUD, 0, 0, 0);
                case CLEAR: return start(plan) && addStep(plan, Plan.CLEAR, 0, 0, 0);
                case STOP: return start(plan) && addStep(plan, Plan.STOP, 0, 0, 0);
                case WHEN: return startBlock(plan) && readTest(plan, land);
                case LOOP: return startBlock(plan) && readNumberStep(plan, Plan.LOOP, 99);
                default: return failOrder();
            }
        }

        private boolean start(Plan plan) {
            if (plan.steps >= MOST_STEPS) {
                return fail(FAULT_MANY);
            }
            skip();
            return true;
        }

        private boolean startBlock(Plan plan) {
            if (plan.steps < MOST_STEPS && depth >= MOST_DEPTH) {
                return fail(FAULT_DEEP);
            }
            if (!start(plan)) {
                return false;
            }
            open[depth] = plan.rows;
            depth++;
            return true;
        }

        private boolean addStep(Plan plan, int kind, int a, int b, int c) {
            return takeSemicolon() && plan.add(kind, a, b, c);
        }

        private boolean readNumberStep(Plan plan, int kind, int most) {
            int number = takeNumber(1, most);
            return number != NONE && addStep(plan, kind, number, 0, 0);
        }

        private boolean readGo(Plan plan, Land land) {
            int person = takePerson(land);
            int place = person == NONE ? NONE : takePlace(land);
            return place != NONE && addStep(plan, Plan.GO, person, place, 0);
        }

        private boolean readLead(Plan plan, Land land) {
            int person = takePerson(land);
            int other = person == NONE ? NONE : takePerson(land);
            if (other == NONE) {
                return false;
            }
            if (person == other) {
                return failTaken(FAULT_TWICE);
            }
            int place = takePlace(land);
            return place != NONE && addStep(plan, Plan.LEAD, person, other, place);
        }

        private boolean readTest(Plan plan, Land land) {
            if (skipWord(GLARE)) {
                return addStep(plan, Plan.WHEN_GLARE, 0, 0, 0);
            }
            if (skipWord(AT)) {
                int person = takePerson(land);
                int place = person == NONE ? NONE : takePlace(land);
                return place != NONE && addStep(plan, Plan.WHEN_AT, person, place, 0);
            }
            if (!takeWord(LOST)) {
                return false;
            }
            int person = takePerson(land);
            int sign = person == NONE ? NONE : takeComparison();
            int number = sign == NONE ? NONE : takeNumber(0, 9999);
            return number != NONE && addStep(plan, Plan.WHEN_LOST, person, sign, number);
        }
    }

    /** Days that are lived by a seed, and what came of them. */
    private static final class Life {
        private static final int MOST_DONE = 300;
        /** Far above 300 steps, each of them with at most 99 turns of a loop without a step. */
        private static final int MOST_TURNS = 1000000;

        /** How many turns a loop in a row still has, the one in which it is among them. */
        private final int[] turnsLeft = new int[Plan.ROWS];
        private int drawn;
        int steps;
        int missed;
        int minutes;
        int arrivals;
        int lost;
        boolean isCutOff;

        void run(Land land, int seed) {
            Plan plan = land.plan;
            drawn = seed;
            steps = 0;
            missed = 0;
            arrivals = 0;
            isCutOff = false;
            int minuteAhead = land.minute;
            int lostAhead = land.lostOfAll();
            int row = 0;
            for (int turn = 0; turn < MOST_TURNS && row >= 0 && row < plan.rows; turn++) {
                if (plan.kinds[row] == Plan.END) {
                    row = rowBehindEnd(plan, row);
                } else if (steps >= MOST_DONE) {
                    isCutOff = true;
                    row = plan.rows;
                } else {
                    steps++;
                    row = doStep(land, row);
                }
            }
            minutes = land.minute - minuteAhead;
            lost = land.lostOfAll() - lostAhead;
        }

        private int rowBehindEnd(Plan plan, int row) {
            int begun = plan.partner[row];
            if (begun < 0 || begun >= plan.rows) {
                return plan.rows;
            }
            if (plan.kinds[begun] == Plan.LOOP && turnsLeft[begun] > 1) {
                turnsLeft[begun]--;
                return begun + 1;
            }
            return row + 1;
        }

        /** Does a step: the row that comes behind it. */
        private int doStep(Land land, int row) {
            Plan plan = land.plan;
            int a = plan.first[row];
            int b = plan.second[row];
            int c = plan.third[row];
            int came = 0;
            boolean isDone = true;
            boolean holds = true;
            switch (plan.kinds[row]) {
                case Plan.WAIT: came = land.passMinutes(a); break;
                case Plan.GO: isDone = land.setOut(a, 0, b) != NONE; break;
                case Plan.LEAD: isDone = land.setOut(a, 1 << b, c) != NONE; break;
                case Plan.ANY: isDone = sendAny(land); break;
                case Plan.CLOUD: isDone = makeCloudy(land, true); break;
                case Plan.CLEAR: isDone = makeCloudy(land, false); break;
                case Plan.WHEN_AT: holds = land.placeOf(a) == b; break;
                case Plan.WHEN_GLARE: holds = land.isGlaring(land.minute); break;
                case Plan.WHEN_LOST: holds = compares(land.minutesLost(a), b, c); break;
                case Plan.LOOP: turnsLeft[row] = a; break;
                default: return plan.rows;
            }
            arrivals += came == NONE ? 0 : Integer.bitCount(came);
            missed += isDone && came != NONE ? 0 : 1;
            return holds ? row + 1 : plan.partner[row] + 1;
        }

        private boolean sendAny(Land land) {
            if (land.peopleCount < 1 || land.placeCount < 1) {
                return false;
            }
            int person = drawBy(land.peopleCount);
            int place = drawBy(land.placeCount);
            return land.setOut(person, 0, place) != NONE;
        }

        private int drawBy(int many) {
            drawn = (drawn * 2971 + 10733) % 65536;
            return many < 1 ? 0 : drawn / 8 % many;
        }

        private static boolean makeCloudy(Land land, boolean is) {
            if (land.cloudy == is) {
                return false;
            }
            land.cloudy = is;
            return true;
        }

        private static boolean compares(int number, int sign, int other) {
            if (sign == '<') {
                return number < other;
            }
            return sign == '>' ? number > other : number == other;
        }
    }

    /** Ways from place to place: the soonest, the least to plant, and how many there are. */
    private static final class Paths {
        /** What it costs to plant a road, besides its own bit: sets of fewer roads cost less. */
        static final int ONE_ROAD = 1 << MOST_ROADS;

        /** When each place is come to soonest, or what must be planted for it; FAR: never. */
        private final int[] costs = new int[MOST_PLACES];
        private final int[] otherCosts = new int[MOST_PLACES];
        private long[] counts = new long[MOST_PLACES];
        private long[] newCounts = new long[MOST_PLACES];
        int meetingPlace;
        int meetingIn;

        /** The fewest minutes of one, or of two at one place (other: NONE for one alone). */
        int minutesTo(Land land, int person, int other, int place) {
            int from = land.people[person].place;
            findTimes(land, person, other, from, land.minute);
            return minutesFrom(costs[place], land.minute);
        }

        private static int minutesFrom(int time, int start) {
            return time >= FAR ? FAR : time - start;
        }

        private void startAt(Land land, int place, int cost) {
            for (int i = 0; i < MOST_PLACES; i++) {
                costs[i] = FAR;
            }
            if (land.hasPlace(place)) {
                costs[place] = cost;
            }
        }

        /** Who sets out later on a road never comes sooner, so the soonest time is enough. */
        private void findTimes(Land land, int person, int other, int from, int start) {
            startAt(land, from, start);
            for (int round = 1; round < land.placeCount; round++) {
                for (int road = 0; road < land.roadCount; road++) {
                    int one = land.roadFrom[road];
                    int two = land.roadTo[road];
                    costs[two] = Math.min(costs[two],
                            arrival(land, person, other, road, costs[one]));
                    costs[one] = Math.min(costs[one],
                            arrival(land, person, other, road, costs[two]));
                }
            }
        }

        private static int arrival(Land land, int person, int other, int road, int start) {
            int alone = land.arrivalBy(person, road, start);
            return other == NONE ? alone : Math.min(alone, land.arrivalBy(other, road, start));
        }

        /** The first place of a soonest way, of several the first; NONE: there is no way. */
        int firstPlaceTo(Land land, int person, int place) {
            int from = land.people[person].place;
            int soonest = minutesTo(land, person, NONE, place);
            for (int i = 0; i < land.placeCount && soonest < FAR; i++) {
                int road = land.roadBetween(from, i);
                if (road != NONE) {
                    findTimes(land, person, NONE, i, land.arrivalBy(person, road, land.minute));
                    if (minutesFrom(costs[place], land.minute) == soonest) {
                        return i;
                    }
                }
            }
            return NONE;
        }

        void findMeeting(Land land, int person, int other) {
            findTimes(land, other, NONE, land.people[other].place, land.minute);
            System.arraycopy(costs, 0, otherCosts, 0, MOST_PLACES);
            findTimes(land, person, NONE, land.people[person].place, land.minute);
            meetingPlace = NONE;
            meetingIn = FAR;
            for (int i = 0; i < land.placeCount; i++) {
                int in = minutesFrom(Math.max(costs[i], otherCosts[i]), land.minute);
                if (in < meetingIn) {
                    meetingIn = in;
                    meetingPlace = i;
                }
            }
        }

        /** How many roads must be planted times ONE_ROAD, and their set; FAR: it never helps. */
        int plantingCost(Land land, int person, int place) {
            startAt(land, land.people[person].place, 0);
            for (int round = 1; round < land.placeCount; round++) {
                for (int road = 0; road < land.roadCount; road++) {
                    boolean isOpen = land.paceOf(person, road) != Hours.NEVER;
                    int more = isOpen ? 0 : ONE_ROAD + (1 << road);
                    int one = land.roadFrom[road];
                    int two = land.roadTo[road];
                    costs[two] = Math.min(costs[two], costs[one] + more);
                    costs[one] = Math.min(costs[one], costs[two] + more);
                }
            }
            return Math.min(costs[place], FAR);
        }

        long countWays(Land land, int person, int place, int to, int many) {
            for (int i = 0; i < MOST_PLACES; i++) {
                counts[i] = i == place ? 1 : 0;
            }
            for (int i = 0; i < many; i++) {
                goOneRoad(land, person);
            }
            return counts[to];
        }

        private void goOneRoad(Land land, int person) {
            for (int i = 0; i < MOST_PLACES; i++) {
                newCounts[i] = 0;
            }
            for (int road = 0; road < land.roadCount; road++) {
                if (land.paceOf(person, road) != Hours.NEVER) {
                    newCounts[land.roadTo[road]] += counts[land.roadFrom[road]];
                    newCounts[land.roadFrom[road]] += counts[land.roadTo[road]];
                }
            }
            long[] old = counts;
            counts = newCounts;
            newCounts = old;
        }
    }

    /** Sighted ones with blind ones, stable by what they owe each other. */
    private static final class Pairing {
        final int[] partner = new int[MOST_PEOPLE];
        private final int[] asked = new int[MOST_PEOPLE];

        void findPairs(Land land) {
            for (int i = 0; i < MOST_PEOPLE; i++) {
                partner[i] = NONE;
                asked[i] = 0;
            }
            // A round in which nobody asks changes nothing, and nobody asks anyone twice.
            for (int round = 0; round < MOST_PEOPLE * MOST_PEOPLE; round++) {
                for (int i = 0; i < land.peopleCount; i++) {
                    if (land.people[i].sighted && partner[i] == NONE) {
                        askNext(land, i);
                    }
                }
            }
        }

        private void askNext(Land land, int asker) {
            int best = NONE;
            for (int i = 0; i < land.peopleCount; i++) {
                boolean isOpen = !land.people[i].sighted && (asked[asker] & 1 << i) == 0;
                if (isOpen && likes(land, asker, i, best)) {
                    best = i;
                }
            }
            if (best == NONE) {
                return;
            }
            asked[asker] |= 1 << best;
            int kept = partner[best];
            if (!likes(land, best, asker, kept)) {
                return;
            }
            if (kept != NONE) {
                partner[kept] = NONE;
            }
            partner[best] = asker;
            partner[asker] = best;
        }

        /** If one is liked better than another one (NONE: nobody). */
        private static boolean likes(Land land, int who, int one, int than) {
            if (than == NONE) {
                return true;
            }
            int owed = land.people[one].owes[who];
            int owedThan = land.people[than].owes[who];
            return owed > owedThan || (owed == owedThan && one < than);
        }

        int countPairs(Land land) {
            int many = 0;
            for (int i = 0; i < land.peopleCount; i++) {
                many += land.people[i].sighted && partner[i] != NONE ? 1 : 0;
            }
            return many;
        }

        int sumOwed(Land land) {
            int sum = 0;
            for (int i = 0; i < land.peopleCount; i++) {
                if (land.people[i].sighted && partner[i] != NONE) {
                    sum += Math.abs(land.people[i].owes[partner[i]]);
                }
            }
            return sum;
        }
    }
}
