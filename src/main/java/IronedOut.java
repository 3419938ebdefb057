/** Years as creases, pressed by laws: see README.md; the promises are in ../shared/DOC.md. */
public final class IronedOut {
    public static final int NONE = -1;

    private static final int OTHERS = -2;
    private static final int NO_SUCH = -1000;

    private static final int MOST_PERSONS = 5;
    private static final int MOST_CREASES = 12;
    private static final int MOST_BOOKED = 30;
    private static final int MOST_STEPS = 30;
    private static final int MOST_TEXTS = 4;
    private static final int MOST_CLAUSES = 24;
    private static final int MOST_BYTES = 300;
    private static final int MOST_OPEN = 8;
    private static final int MOST_TOLD = 8;
    private static final int MOST_NEPHEWS = 6;
    private static final int MOST_HANDS = 4;
    private static final int MOST_COINS = 9999;
    private static final int MOST_YEAR = 99;
    private static final int MOST_DEPTH = 9;
    private static final int MOST_WORTH = 9;
    private static final int MOST_HEAT = 9;
    private static final int MOST_DAMP = 9;
    private static final int MOST_HOURS = 60;
    private static final int MOST_NUMBER = 9999;
    private static final int LAST_HOUR = 9999;
    private static final int FARTHEST = 1000000;
    private static final int FIRST_X = 167;
    private static final int MORE_THAN_ANY = 1000000;

    private static final int SILK = 2;

    private static final int THERE = 0;
    private static final int GONE = 1;
    private static final int SCORCHED = 2;

    private static final int BOOKED_GONE = 0;
    private static final int BOOKED_SCORCHED = 1;
    private static final int BOOKED_BACK = 2;

    private static final int PRESSES_LAW = 0;
    private static final int SCORCHES_LAW = 1;
    private static final int PRICE_LAW = 2;
    private static final int LAWS = 3;

    // The TOKENS. A law is kept as these in the order in which they are worked out,
    // so each stands for what it does, too.
    private static final int AT_END = 0;
    private static final int UNKNOWN = 1;
    private static final int NUMBER = 2;
    private static final int OPEN = 3;
    private static final int CLOSE = 4;
    private static final int STOP = 5;
    private static final int PLUS = 6;
    private static final int MINUS = 7;
    private static final int TIMES = 8;
    private static final int PARTS = 9;
    private static final int BELOW = 10;
    private static final int AT_MOST = 11;
    private static final int ABOVE = 12;
    private static final int AT_LEAST = 13;
    private static final int LIKE = 14;
    private static final int UNLIKE = 15;

    // Words are numbered as they stand in WORDS: eleven that begin a CLAUSE, then
    // the NAMES (heat and hour are both), then the others.
    private static final String WORDS = "presses scorches price person crease tie press pattern damp heat hour who skin year depth worth coins ties to turned deep if then else end not and or ";
    private static final int PRESSES = 16;
    private static final int PRICE = 18;
    private static final int PERSON = 19;
    private static final int CREASE = 20;
    private static final int TIE = 21;
    private static final int PRESS = 22;
    private static final int PATTERN = 23;
    private static final int DAMP = 24;
    private static final int HEAT = 25;
    private static final int HOUR = 26;
    private static final int WHO = 27;
    private static final int SKIN = 28;
    private static final int YEAR = 29;
    private static final int DEPTH = 30;
    private static final int WORTH = 31;
    private static final int COINS = 32;
    private static final int TIES = 33;
    private static final int TO = 34;
    private static final int TURNED = 35;
    private static final int DEEP = 36;
    private static final int IF = 37;
    private static final int THEN = 38;
    private static final int ELSE = 39;
    private static final int END = 40;
    private static final int NOT = 41;
    private static final int AND = 42;
    private static final int OR = 43;
    // The sign of one ONE is the TOKEN of the sign of two, so it needs its own number.
    private static final int NEGATIVE = 44;

    private static final int CANNOT_STAND = 1;
    private static final int NOT_OF_THOSE = 2;
    private static final int TOO_DEEP = 3;
    private static final int TWICE = 4;
    private static final int NOT_ITS_NAME = 5;
    private static final int TOO_MANY = 6;

    private final Text[] texts = new Text[MOST_TEXTS];
    private final Spa spa;
    private final Spa kept;
    private final Reader reader = new Reader();
    private final Hands handsLaid = new Hands();
    private final Finder finder = new Finder();
    private final Reckoner reckoner = new Reckoner();

    public IronedOut() {
        for (int i = 0; i < texts.length; i++) {
            texts[i] = new Text();
        }
        Asker asker = new Asker();
        spa = new Spa(texts, asker);
        kept = new Spa(texts, asker);
    }

    public int person(int skin, int coins) {
        return spa.tellPerson(skin, coins);
    }

    public int crease(int person, int year, int depth, int worth) {
        return spa.tellCrease(person, year, depth, worth);
    }

    public boolean tie(int one, int other) {
        return spa.tellTie(one, other);
    }

    public boolean heat(int heat) {
        return spa.tellHeat(heat);
    }

    public int feed(int a, int b, int c, int d, int e) {
        if (!reader.hasRoom()) {
            return NONE;
        }
        reader.take(a);
        reader.take(b);
        reader.take(c);
        reader.take(d);
        return reader.take(e);
    }

    public int end(int n) {
        return reader.shorten(n);
    }

    public int text() {
        if (spa.texts >= texts.length) {
            return NONE;
        }
        boolean sound = reader.read(texts[spa.texts]);
        reader.shorten(0);
        if (!sound) {
            return NONE;
        }
        spa.texts++;
        return spa.texts - 1;
    }

    public int fault(int what) {
        if (what == 0) {
            return reader.fault;
        }
        return what == 1 ? reader.place : NONE;
    }

    public boolean by(int text) {
        if (text < NONE || text >= spa.texts) {
            return false;
        }
        spa.ruling = text;
        return true;
    }

    public int press(int crease) {
        return spa.pressStep(crease) ? spa.now.depth[crease] : NONE;
    }

    public boolean pattern(int crease) {
        return spa.patternStep(crease);
    }

    public int damp(int n) {
        return n < 1 || n > MOST_DAMP ? NONE : spa.dampStep(n);
    }

    public int hour(int n) {
        if (n < 1 || n > MOST_HOURS || spa.now.hour + n > LAST_HOUR) {
            return NONE;
        }
        spa.hourSteps(n);
        return spa.now.hour;
    }

    public int played(int text) {
        if (text < 0 || text >= spa.texts) {
            return OTHERS;
        }
        Text played = texts[text];
        for (int i = 0; i < played.clauses; i++) {
            if (!clauseDone(played, i)) {
                return i;
            }
        }
        return NONE;
    }

    private boolean clauseDone(Text text, int clause) {
        int one = text.told(clause, 0);
        int two = text.told(clause, 1);
        switch (text.kind(clause)) {
            case PERSON: return spa.tellPerson(one, two) != NONE;
            case CREASE: return spa.tellCrease(one, two, text.told(clause, 2), 1) != NONE;
            case TIE: return spa.tellTie(one, two);
            case HEAT: return spa.tellHeat(one);
            case PRESS: return spa.pressStep(one);
            case PATTERN: return spa.patternStep(one);
            case DAMP: return spa.dampStep(one) >= 0;
            case HOUR: return spa.hourSteps(one) == one;
            default: return true;
        }
    }

    public int seasons(int seed, int n) {
        if (seed < 0 || seed > 9999 || n < 1 || n > 40) {
            return NONE;
        }
        return spa.seasonStep(seed, n);
    }

    public int undo() {
        return spa.takeBack();
    }

    public int of(int person, int what) {
        if (!spa.isPerson(person)) {
            return NO_SUCH;
        }
        switch (what) {
            case 0: return spa.skin[person];
            case 1: return spa.now.coins[person];
            case 2: return spa.creasesOf(person);
            case 3: return spa.creasesOf(person) & spa.allThere();
            case 4: return spa.worthOf(spa.creasesOf(person) & spa.allThere());
            case 5: return reckoner.longestSpan(spa, person);
            default: return NO_SUCH;
        }
    }

    public int ofCrease(int crease, int what) {
        if (!spa.isCrease(crease)) {
            return NO_SUCH;
        }
        switch (what) {
            case 0: return spa.owner[crease];
            case 1: return spa.year[crease];
            case 2: return spa.now.depth[crease];
            case 3: return spa.worth[crease];
            case 4: return spa.now.how[crease];
            case 5: return spa.hangsOn[crease];
            case 6: return spa.byLaw(PRESSES_LAW, crease, spa.ruling);
            case 7: return spa.byLaw(SCORCHES_LAW, crease, spa.ruling);
            case 8: return spa.byLaw(PRICE_LAW, crease, spa.ruling);
            default: return NO_SUCH;
        }
    }

    public int is(int what) {
        switch (what) {
            case 0: return spa.now.hour;
            case 1: return spa.heat;
            case 2: return spa.now.x;
            case 3: return spa.now.creases;
            default: return OTHERS;
        }
    }

    public int book(int i, int what) {
        if (i == NONE) {
            return spa.now.booked;
        }
        return spa.now.entry(i, what);
    }

    public int hanging(int crease) {
        return spa.isCrease(crease) ? spa.hanging[crease] : NONE;
    }

    public int foretold(int n, int crease) {
        if (n < 1 || n > MOST_HOURS || !spa.isCrease(crease)) {
            return NONE;
        }
        return reckoner.depthBehind(spa, n, crease);
    }

    public int want(int crease, int go) {
        if (crease == NONE) {
            return spa.wanted.empty();
        }
        if (!spa.isCrease(crease) || go < 0 || go > 1) {
            return OTHERS;
        }
        return spa.wanted.add(crease, go, 0);
    }

    public int cut(boolean worth) {
        int set = reckoner.setToPress(spa);
        if (set < 0) {
            return NO_SUCH;
        }
        return worth ? spa.worthOf(set) : set;
    }

    public int board(int hours) {
        if (hours == NONE) {
            return spa.work.empty();
        }
        return hours < 1 || hours > 99 ? OTHERS : spa.work.add(hours, 0, 0);
    }

    public int hands(int m, int i) {
        if (m < 1 || m > MOST_HANDS || i < NONE || i >= spa.work.count) {
            return OTHERS;
        }
        handsLaid.lay(spa.work, m);
        return i == NONE ? handsLaid.soonest : handsLaid.best[i];
    }

    public int flat(int person, int k, int w) {
        if (!spa.isPerson(person) || k < 0 || k > 12 || w < 1 || w > 100) {
            return NONE;
        }
        return reckoner.flattest(spa, person, k, w);
    }

    public int seam(int from, int to, int sum) {
        if (from == NONE) {
            return spa.seams.empty();
        }
        if (from < 0 || to > MOST_YEAR || from > to || sum < 0 || sum > 999) {
            return OTHERS;
        }
        return spa.seams.add(from, to, sum);
    }

    public int sets(int person, int what) {
        if (!spa.isPerson(person) || what < 0 || what > 2) {
            return NONE;
        }
        finder.find(spa, person);
        if (what == 0) {
            return finder.found;
        }
        return what == 1 ? finder.sure() : finder.never();
    }

    public int next(int person) {
        if (!spa.isPerson(person)) {
            return NONE;
        }
        finder.find(spa, person);
        return finder.asked();
    }

    public int heir(int weight) {
        if (weight == NONE) {
            return spa.nephews.empty();
        }
        return weight < 1 || weight > 999 ? OTHERS : spa.nephews.add(weight, 0, 0);
    }

    public int laughs(int n, boolean turns, int i) {
        if (n < 0 || n > 99 || i < 0 || i >= spa.nephews.count) {
            return NONE;
        }
        return turns ? reckoner.laughsByTurns(spa.nephews, n, i)
            : reckoner.wholeLaughs(spa.nephews, n, i);
    }

    public int offer(int price) {
        if (price == NONE) {
            return spa.offers.empty();
        }
        return price < 0 || price > 999 ? OTHERS : spa.offers.add(price, 0, 0);
    }

    public int price(boolean takings) {
        int price = reckoner.bestPrice(spa.offers);
        return takings ? reckoner.takings(spa.offers, price) : price;
    }

    public long wrongly(int n, int k, int a, int b, boolean low) {
        if (n < 1 || n > 9 || k < 0 || k > 9 || a < 0 || a > 10 || b < 0 || b > 10) {
            return NONE;
        }
        long upper = reckoner.wrongWays(n, k, a * (10 - b));
        long lower = reckoner.power(100, n);
        long shared = reckoner.commonPart(upper, lower);
        return (low ? lower : upper) / (shared == 0 ? 1 : shared);
    }

    public int priced(int crease, int price) {
        if (crease == NONE) {
            return spa.paid.empty();
        }
        if (!spa.isCrease(crease) || price < 0 || price > MOST_COINS) {
            return OTHERS;
        }
        return spa.paid.add(crease, price, 0);
    }

    public int whose() {
        int set = 0;
        for (int text = 0; text < spa.texts; text++) {
            if (spa.isPaidBy(text)) {
                set |= 1 << text;
            }
        }
        return set;
    }

    public int befell(int crease, int what) {
        if (crease != NONE && !spa.isCrease(crease) || what < 0 || what > 2) {
            return OTHERS;
        }
        int count = 0;
        for (int i = 0; i < spa.now.booked; i++) {
            boolean its = crease == NONE || spa.now.entry(i, 1) == crease;
            count += its && spa.now.entry(i, 2) == what ? 1 : 0;
        }
        return count;
    }

    public int eldest(int person) {
        return spa.isPerson(person) ? reckoner.eldestThere(spa, person) : NONE;
    }

    public int blank() {
        int set = 0;
        for (int person = 0; person < spa.now.persons; person++) {
            if ((spa.creasesOf(person) & spa.allThere()) == 0) {
                set |= 1 << person;
            }
        }
        return set;
    }

    public int shared(int a, int b) {
        if (!spa.isPerson(a) || !spa.isPerson(b) || a == b) {
            return NONE;
        }
        return reckoner.tensOfYears(spa, a) & reckoner.tensOfYears(spa, b);
    }

    public int image() {
        kept.copy(spa);
        return spa.now.hour;
    }

    public int back() {
        spa.copy(kept);
        return spa.now.hour;
    }

    public int about(int what) {
        switch (what) {
            case 0: return spa.now.persons;
            case 1: return spa.texts;
            case 2: return spa.ruling;
            case 3: return spa.steps.count;
            case 4: return spa.wanted.count;
            case 5: return spa.work.count;
            case 6: return spa.seams.count;
            case 7: return spa.nephews.count;
            case 8: return spa.offers.count;
            case 9: return reader.length;
            default: return OTHERS;
        }
    }

    /** All that a STEP changes, and so all that is kept ahead of one to take it back. */
    private static final class Moment {
        int hour;
        int x = FIRST_X;
        int persons;
        int creases;
        int booked;
        final int[] coins = new int[MOST_PERSONS];
        final int[] how = new int[MOST_CREASES];
        final int[] depth = new int[MOST_CREASES];
        // One number an entry: thirty books are kept for the STEPS, and thirty for THE IMAGE.
        private final int[] entries = new int[MOST_BOOKED];

        void copy(Moment other) {
            hour = other.hour;
            x = other.x;
            persons = other.persons;
            creases = other.creases;
            booked = other.booked;
            System.arraycopy(other.coins, 0, coins, 0, MOST_PERSONS);
            System.arraycopy(other.how, 0, how, 0, MOST_CREASES);
            System.arraycopy(other.depth, 0, depth, 0, MOST_CREASES);
            System.arraycopy(other.entries, 0, entries, 0, MOST_BOOKED);
        }

        void write(int crease, int what) {
            if (booked >= MOST_BOOKED) {
                System.arraycopy(entries, 1, entries, 0, MOST_BOOKED - 1);
                booked = MOST_BOOKED - 1;
            }
            entries[booked] = hour << 6 | crease << 2 | what;
            booked++;
        }

        int entry(int i, int what) {
            if (i < 0 || i >= booked) {
                return OTHERS;
            }
            switch (what) {
                case 0: return entries[i] >> 6;
                case 1: return entries[i] >> 2 & 15;
                case 2: return entries[i] & 3;
                default: return OTHERS;
            }
        }

        int draw() {
            int drawn = x % 10;
            x = (x * 401 + 281) % 30509;
            return drawn;
        }
    }

    /** The latest STEPS, in a ring: the eldest gives way. */
    private static final class Steps {
        int count;
        private int first;
        private final Moment[] ahead = new Moment[MOST_STEPS];

        Steps() {
            for (int i = 0; i < ahead.length; i++) {
                ahead[i] = new Moment();
            }
        }

        void keep(Moment now) {
            if (count < MOST_STEPS) {
                count++;
            } else {
                first = (first + 1) % MOST_STEPS;
            }
            kept(count - 1).copy(now);
        }

        Moment kept(int i) {
            return ahead[(first + Math.max(i, 0)) % MOST_STEPS];
        }

        void copy(Steps other) {
            first = 0;
            count = other.count;
            for (int i = 0; i < count; i++) {
                kept(i).copy(other.kept(i));
            }
        }
    }

    /** A list that is told row by row, and emptied as a whole. */
    private static final class Told {
        int count;
        final int[] first;
        final int[] second;
        final int[] third;

        Told(int most) {
            first = new int[most];
            second = new int[most];
            third = new int[most];
        }

        int empty() {
            count = 0;
            return 0;
        }

        int add(int one, int two, int three) {
            if (count >= first.length) {
                return OTHERS;
            }
            first[count] = one;
            second[count] = two;
            third[count] = three;
            count++;
            return count;
        }

        void copy(Told other) {
            count = Math.min(other.count, first.length);
            System.arraycopy(other.first, 0, first, 0, count);
            System.arraycopy(other.second, 0, second, 0, count);
            System.arraycopy(other.third, 0, third, 0, count);
        }
    }

    /** All that THE IMAGE holds. */
    private static final class Spa {
        int heat = 5;
        int texts;
        int ruling = NONE;
        final Moment now = new Moment();
        final Steps steps = new Steps();
        final int[] skin = new int[MOST_PERSONS];
        final int[] coinsTold = new int[MOST_PERSONS];
        final int[] owner = new int[MOST_CREASES];
        final int[] year = new int[MOST_CREASES];
        final int[] depthTold = new int[MOST_CREASES];
        final int[] worth = new int[MOST_CREASES];
        final int[] hangsOn = new int[MOST_CREASES];
        final int[] hanging = new int[MOST_CREASES];
        final Told wanted = new Told(MOST_TOLD);
        final Told work = new Told(MOST_TOLD);
        final Told seams = new Told(MOST_TOLD);
        final Told nephews = new Told(MOST_NEPHEWS);
        final Told offers = new Told(MOST_TOLD);
        final Told paid = new Told(MOST_TOLD);
        // The same for the spa and its image: a TEXT is never changed once it counts, and
        // a new one is read behind all that count in either.
        private final Text[] written;
        private final Asker asker;

        Spa(Text[] written, Asker asker) {
            this.written = written;
            this.asker = asker;
        }

        void copy(Spa other) {
            heat = other.heat;
            texts = other.texts;
            ruling = other.ruling;
            now.copy(other.now);
            steps.copy(other.steps);
            System.arraycopy(other.skin, 0, skin, 0, MOST_PERSONS);
            System.arraycopy(other.coinsTold, 0, coinsTold, 0, MOST_PERSONS);
            System.arraycopy(other.owner, 0, owner, 0, MOST_CREASES);
            System.arraycopy(other.year, 0, year, 0, MOST_CREASES);
            System.arraycopy(other.depthTold, 0, depthTold, 0, MOST_CREASES);
            System.arraycopy(other.worth, 0, worth, 0, MOST_CREASES);
            System.arraycopy(other.hangsOn, 0, hangsOn, 0, MOST_CREASES);
            System.arraycopy(other.hanging, 0, hanging, 0, MOST_CREASES);
            wanted.copy(other.wanted);
            work.copy(other.work);
            seams.copy(other.seams);
            nephews.copy(other.nephews);
            offers.copy(other.offers);
            paid.copy(other.paid);
        }

        boolean isPerson(int person) {
            return person >= 0 && person < now.persons;
        }

        boolean isCrease(int crease) {
            return crease >= 0 && crease < now.creases;
        }

        boolean isThere(int crease) {
            return isCrease(crease) && now.how[crease] == THERE;
        }

        int tellPerson(int skinTold, int coins) {
            if (skinTold < 0 || skinTold > SILK || coins < 0 || coins > MOST_COINS
                || now.persons >= MOST_PERSONS) {
                return NONE;
            }
            int person = now.persons;
            skin[person] = skinTold;
            coinsTold[person] = coins;
            now.coins[person] = coins;
            now.persons++;
            return person;
        }

        int tellCrease(int person, int yearTold, int depth, int worthTold) {
            if (!isPerson(person) || yearTold < 0 || yearTold > MOST_YEAR
                || depth < 1 || depth > MOST_DEPTH || worthTold < -MOST_WORTH
                || worthTold > MOST_WORTH || now.creases >= MOST_CREASES) {
                return NONE;
            }
            int crease = now.creases;
            owner[crease] = person;
            year[crease] = yearTold;
            depthTold[crease] = depth;
            worth[crease] = worthTold;
            hangsOn[crease] = 0;
            hanging[crease] = 1 << crease;
            setAsTold(crease);
            now.creases++;
            return crease;
        }

        private void setAsTold(int crease) {
            now.how[crease] = THERE;
            now.depth[crease] = depthTold[crease];
        }

        boolean tellTie(int one, int other) {
            if (!isCrease(one) || !isCrease(other) || one == other
                || (hangsOn[one] >> other & 1) == 1) {
                return false;
            }
            hangsOn[one] |= 1 << other;
            for (int i = 0; i < now.creases; i++) {
                if ((hanging[i] >> other & 1) == 1) {
                    hanging[i] |= hanging[one];
                }
            }
            return true;
        }

        boolean tellHeat(int heatTold) {
            if (heatTold < 0 || heatTold > MOST_HEAT) {
                return false;
            }
            heat = heatTold;
            return true;
        }

        boolean pressStep(int crease) {
            if (!isThere(crease)) {
                return false;
            }
            steps.keep(now);
            pressOne(crease);
            return true;
        }

        private void pressOne(int crease) {
            int presses = byLaw(PRESSES_LAW, crease, ruling);
            now.depth[crease] = Math.max(0, now.depth[crease] - presses);
            int drawn = now.draw();
            if (drawn < byLaw(SCORCHES_LAW, crease, ruling)) {
                now.how[crease] = SCORCHED;
                now.depth[crease] = 0;
                now.write(crease, BOOKED_SCORCHED);
            } else if (now.depth[crease] == 0) {
                goWithHanging(crease);
            }
            int person = owner[crease];
            now.coins[person] = Math.max(0, now.coins[person] - byLaw(PRICE_LAW, crease, ruling));
        }

        private void goWithHanging(int crease) {
            for (int i = 0; i < now.creases; i++) {
                if ((hanging[crease] >> i & 1) == 1 && now.how[i] == THERE) {
                    goOne(i);
                }
            }
        }

        private void goOne(int crease) {
            now.how[crease] = GONE;
            now.depth[crease] = 0;
            now.write(crease, BOOKED_GONE);
        }

        private boolean mayComeBack(int crease) {
            return isCrease(crease) && now.how[crease] == GONE
                && (hangsOn[crease] & ~allThere()) == 0;
        }

        private void comeBack(int crease, int depth) {
            now.how[crease] = THERE;
            now.depth[crease] = depth;
            now.write(crease, BOOKED_BACK);
        }

        boolean patternStep(int crease) {
            if (!mayComeBack(crease)) {
                return false;
            }
            steps.keep(now);
            comeBack(crease, depthTold[crease]);
            return true;
        }

        int dampStep(int most) {
            steps.keep(now);
            return dampen(most);
        }

        private int dampen(int most) {
            int count = 0;
            for (int i = 0; i < now.creases && count < most; i++) {
                if (mayComeBack(i)) {
                    comeBack(i, 1);
                    count++;
                }
            }
            return count;
        }

        /** How many of so many HOURS can pass, and do. */
        int hourSteps(int most) {
            int count = 0;
            while (count < most && now.hour < LAST_HOUR) {
                steps.keep(now);
                passHour();
                count++;
            }
            return count;
        }

        private void passHour() {
            for (int i = 0; i < now.creases && now.hour % 10 == 9; i++) {
                if (now.how[i] == THERE && now.depth[i] < depthTold[i]) {
                    now.depth[i]++;
                }
            }
            now.hour++;
        }

        int seasonStep(int seed, int n) {
            steps.keep(now);
            now.x = seed * 2 + FIRST_X;
            for (int i = 0; i < n; i++) {
                passSeason();
            }
            return now.hour;
        }

        private void passSeason() {
            int x = now.x;
            now.draw();
            int what = x % 6;
            if (what == 5 && now.hour < LAST_HOUR) {
                passHour();
            }
            if (what == 5 || now.creases <= 0) {
                return;
            }
            int crease = x % now.creases;
            if (what <= 2 && isThere(crease)) {
                pressOne(crease);
            } else if (what == 3 && mayComeBack(crease)) {
                comeBack(crease, depthTold[crease]);
            } else if (what == 4) {
                dampen(1);
            }
        }

        int takeBack() {
            if (steps.count <= 0) {
                return NONE;
            }
            Moment ahead = steps.kept(steps.count - 1);
            steps.count--;
            int persons = now.persons;
            int creases = now.creases;
            now.copy(ahead);
            for (int i = ahead.persons; i < persons; i++) {
                now.coins[i] = coinsTold[i];
            }
            for (int i = ahead.creases; i < creases; i++) {
                setAsTold(i);
            }
            now.persons = persons;
            now.creases = creases;
            return steps.count;
        }

        int creasesOf(int person) {
            int set = 0;
            for (int i = 0; i < now.creases; i++) {
                set |= owner[i] == person ? 1 << i : 0;
            }
            return set;
        }

        int allThere() {
            int set = 0;
            for (int i = 0; i < now.creases; i++) {
                set |= now.how[i] == THERE ? 1 << i : 0;
            }
            return set;
        }

        int worthOf(int set) {
            int sum = 0;
            for (int i = 0; i < now.creases; i++) {
                sum += (set >> i & 1) * worth[i];
            }
            return sum;
        }

        int byLaw(int law, int crease, int text) {
            if (text < 0 || text >= texts || written[text].laws[law] == NONE) {
                return withoutLaw(law, crease);
            }
            int asked = asker.ask(written[text], law, this, crease);
            int most = law == PRESSES_LAW ? 9 : law == SCORCHES_LAW ? 10 : 9999;
            return Math.max(0, Math.min(most, asked));
        }

        private int withoutLaw(int law, int crease) {
            if (law == PRESSES_LAW) {
                return skin[owner[crease]] == SILK ? 1 : heat / 2;
            }
            return law == SCORCHES_LAW ? Math.max(0, heat - 6) : now.depth[crease];
        }

        boolean isPaidBy(int text) {
            for (int i = 0; i < paid.count; i++) {
                if (byLaw(PRICE_LAW, paid.first[i], text) != paid.second[i]) {
                    return false;
                }
            }
            return true;
        }
    }

    /** A TEXT as it was read: its CLAUSES, and its laws in the order in which they are worked out. */
    private static final class Text {
        static final int KIND_BITS = 6;
        static final int KIND_MASK = 63;

        int clauses;
        int length;
        final int[] laws = new int[LAWS];
        // No TOKEN leaves more than one behind.
        final int[] code = new int[MOST_BYTES];
        private final int[] kinds = new int[MOST_CLAUSES];
        private final int[][] numbers = new int[3][MOST_CLAUSES];

        void empty() {
            clauses = 0;
            length = 0;
            for (int i = 0; i < LAWS; i++) {
                laws[i] = NONE;
            }
        }

        void begin(int kind) {
            if (clauses < MOST_CLAUSES) {
                kinds[clauses] = kind;
                clauses++;
            }
        }

        int kind(int clause) {
            return clause >= 0 && clause < clauses ? kinds[clause] : UNKNOWN;
        }

        int told(int clause, int i) {
            return clause >= 0 && clause < clauses && i >= 0 && i < 3 ? numbers[i][clause] : 0;
        }

        void tell(int i, int number) {
            if (clauses > 0 && i >= 0 && i < 3) {
                numbers[i][clauses - 1] = number;
            }
        }

        void add(int kind, int value) {
            if (length < code.length) {
                code[length] = value << KIND_BITS | kind;
                length++;
            }
        }

        /** A jump's target is known only when what it leaps over has been read. */
        void aim(int jump) {
            if (jump >= 0 && jump < length) {
                code[jump] = length << KIND_BITS | code[jump] & KIND_MASK;
            }
        }
    }

    /** The tape, and the reading of it. */
    private static final class Reader {
        int length;
        int fault = NONE;
        int place = NONE;
        private final int[] tape = new int[MOST_BYTES];
        private Text text;
        private int at;
        private int start;
        private int token;
        private int value;
        private int law;

        boolean hasRoom() {
            return length + 20 <= MOST_BYTES;
        }

        int take(int four) {
            for (int shift = 24; shift >= 0 && length < MOST_BYTES; shift -= 8) {
                tape[length] = four >> shift & 255;
                length++;
            }
            return length;
        }

        int shorten(int n) {
            if (n < 0 || n > length) {
                return NONE;
            }
            length = n;
            return n;
        }

        boolean read(Text into) {
            text = into;
            text.empty();
            fault = 0;
            place = NONE;
            at = 0;
            go();
            for (int i = 0; i <= MOST_CLAUSES && token != AT_END; i++) {
                if (!readClause()) {
                    return false;
                }
            }
            return true;
        }

        private boolean refuse(int why) {
            fault = why;
            place = start;
            return false;
        }

        private boolean readClause() {
            int kind = token;
            if (kind < PRESSES || kind > HOUR) {
                return refuse(CANNOT_STAND);
            }
            boolean isLaw = kind <= PRICE;
            law = kind - PRESSES;
            if (isLaw && text.laws[law] != NONE) {
                return refuse(TWICE);
            }
            if (text.clauses >= MOST_CLAUSES) {
                return refuse(TOO_MANY);
            }
            text.begin(kind);
            go();
            if (!isLaw) {
                return readDeed(kind) && pass(STOP);
            }
            text.laws[law] = text.length;
            return readSum(0) && passKept(STOP);
        }

        private boolean readDeed(int kind) {
            switch (kind) {
                case PERSON:
                    return readNumber(0, 0, SILK) && pass(COINS) && readNumber(1, 0, MOST_COINS);
                case CREASE:
                    return readNumber(0, 0, MOST_PERSONS - 1) && pass(YEAR)
                        && readNumber(1, 0, MOST_YEAR) && pass(DEPTH)
                        && readNumber(2, 1, MOST_DEPTH);
                case TIE:
                    return readNumber(0, 0, MOST_CREASES - 1) && pass(TO)
                        && readNumber(1, 0, MOST_CREASES - 1);
                case HEAT: return readNumber(0, 0, MOST_HEAT);
                case DAMP: return readNumber(0, 1, MOST_DAMP);
                case HOUR: return readNumber(0, 1, MOST_HOURS);
                default: return readNumber(0, 0, MOST_CREASES - 1);
            }
        }

        private boolean readNumber(int i, int least, int most) {
            if (token != NUMBER) {
                return refuse(CANNOT_STAND);
            }
            if (value < least || value > most) {
                return refuse(NOT_OF_THOSE);
            }
            text.tell(i, value);
            go();
            return true;
        }

        private boolean pass(int due) {
            if (token != due) {
                return refuse(CANNOT_STAND);
            }
            go();
            return true;
        }

        private boolean passKept(int due) {
            if (token != due) {
                return refuse(CANNOT_STAND);
            }
            text.add(due, 0);
            go();
            return true;
        }

        private boolean readSum(int open) {
            boolean sound = readProduct(open);
            for (int i = 0; i < MOST_BYTES && sound && (token == PLUS || token == MINUS); i++) {
                int sign = token;
                go();
                sound = readProduct(open);
                text.add(sign, 0);
            }
            return sound;
        }

        private boolean readProduct(int open) {
            boolean sound = readOne(open);
            for (int i = 0; i < MOST_BYTES && sound && (token == TIMES || token == PARTS); i++) {
                int sign = token;
                go();
                sound = readOne(open);
                text.add(sign, 0);
            }
            return sound;
        }

        private boolean readOne(int open) {
            int kind = token;
            if (kind == NUMBER || kind >= HEAT && kind <= TIES) {
                return readLeaf(kind);
            }
            if (kind != OPEN && kind != MINUS && kind != TURNED && kind != DEEP && kind != IF) {
                return refuse(CANNOT_STAND);
            }
            if (open >= MOST_OPEN) {
                return refuse(TOO_DEEP);
            }
            go();
            if (kind == IF) {
                return readChoice(open + 1);
            }
            return kind == OPEN ? readSum(open + 1) && pass(CLOSE) : readChanged(kind, open + 1);
        }

        private boolean readChanged(int kind, int open) {
            boolean sound = readOne(open);
            text.add(kind == MINUS ? NEGATIVE : kind, 0);
            return sound;
        }

        private boolean readLeaf(int kind) {
            if (kind == NUMBER && value > MOST_NUMBER) {
                return refuse(NOT_OF_THOSE);
            }
            if (kind == COINS && law != PRICE_LAW || kind == TIES && law == PRESSES_LAW) {
                return refuse(NOT_ITS_NAME);
            }
            text.add(kind, value);
            go();
            return true;
        }

        private boolean readChoice(int open) {
            if (!readEither(open)) {
                return false;
            }
            int leap = text.length;
            if (!passKept(THEN) || !readSum(open)) {
                return false;
            }
            int last = text.length;
            if (!passKept(ELSE)) {
                return false;
            }
            text.aim(leap);
            if (!readSum(open)) {
                return false;
            }
            text.aim(last);
            return pass(END);
        }

        private boolean readEither(int open) {
            boolean sound = readBoth(open);
            for (int i = 0; i < MOST_BYTES && sound && token == OR; i++) {
                go();
                sound = readBoth(open);
                text.add(OR, 0);
            }
            return sound;
        }

        private boolean readBoth(int open) {
            boolean sound = readAsk(open);
            for (int i = 0; i < MOST_BYTES && sound && token == AND; i++) {
                go();
                sound = readAsk(open);
                text.add(AND, 0);
            }
            return sound;
        }

        private boolean readAsk(int open) {
            if (token == NOT) {
                return open < MOST_OPEN ? readNot(open + 1) : refuse(TOO_DEEP);
            }
            if (!readSum(open)) {
                return false;
            }
            int sign = token;
            if (sign < BELOW || sign > UNLIKE) {
                return refuse(CANNOT_STAND);
            }
            go();
            boolean sound = readSum(open);
            text.add(sign, 0);
            return sound;
        }

        private boolean readNot(int open) {
            go();
            boolean sound = readAsk(open);
            text.add(NOT, 0);
            return sound;
        }

        /** On to the next TOKEN. */
        private void go() {
            while (at < length && (tape[at] == ' ' || tape[at] == 10)) {
                at++;
            }
            start = at;
            value = 0;
            if (at >= length) {
                token = AT_END;
            } else if (isDigit(tape[at])) {
                goNumber();
            } else if (isLetter(tape[at])) {
                goWord();
            } else {
                goSign();
            }
        }

        private static boolean isDigit(int sign) {
            return sign >= '0' && sign <= '9';
        }

        private static boolean isLetter(int sign) {
            return sign >= 'a' && sign <= 'z' || sign >= 'A' && sign <= 'Z';
        }

        private void goNumber() {
            token = NUMBER;
            while (at < length && isDigit(tape[at])) {
                value = Math.min(value * 10 + tape[at] - '0', MOST_NUMBER + 1);
                at++;
            }
        }

        private void goWord() {
            while (at < length && isLetter(tape[at])) {
                at++;
            }
            token = UNKNOWN;
            int word = PRESSES;
            int same = start;
            for (int i = 0; i < WORDS.length() && token == UNKNOWN; i++) {
                int sign = WORDS.charAt(i);
                if (sign != ' ') {
                    same = same >= 0 && same < at && tape[same] == sign ? same + 1 : NONE;
                } else if (same == at) {
                    token = word;
                } else {
                    word++;
                    same = start;
                }
            }
        }

        private void goSign() {
            int sign = tape[at];
            at++;
            boolean orLike = at < length && tape[at] == '=' && (sign == '<' || sign == '>');
            at += orLike ? 1 : 0;
            switch (sign) {
                case '(': token = OPEN; break;
                case ')': token = CLOSE; break;
                case ';': token = STOP; break;
                case '+': token = PLUS; break;
                case '-': token = MINUS; break;
                case '*': token = TIMES; break;
                case '/': token = PARTS; break;
                case '<': token = orLike ? AT_MOST : BELOW; break;
                case '>': token = orLike ? AT_LEAST : ABOVE; break;
                case '=': token = LIKE; break;
                case '#': token = UNLIKE; break;
                default: token = UNKNOWN;
            }
        }
    }

    /** Works a law out for a CREASE. */
    private static final class Asker {
        // Eight that are open leave five numbers each waiting at most.
        private final int[] waiting = new int[64];
        private int count;

        int ask(Text text, int law, Spa spa, int crease) {
            count = 0;
            int at = law >= 0 && law < LAWS ? text.laws[law] : NONE;
            // What jumps jumps ahead, so nothing is come to twice.
            for (int i = 0; i < MOST_BYTES && at >= 0 && at < text.length; i++) {
                int kind = text.code[at] & Text.KIND_MASK;
                int value = text.code[at] >> Text.KIND_BITS;
                at++;
                if (kind == STOP) {
                    at = NONE;
                } else if (kind == ELSE || kind == THEN && last() == 0) {
                    at = value;
                } else if (kind == NUMBER) {
                    put(value);
                } else if (kind >= HEAT && kind <= TIES) {
                    put(named(kind, spa, crease));
                } else if (kind == NOT || kind == NEGATIVE || kind == TURNED || kind == DEEP) {
                    put(ofOne(kind, last(), spa));
                } else if (kind != THEN) {
                    int right = last();
                    put(ofTwo(kind, last(), right));
                }
            }
            return last();
        }

        private void put(int number) {
            if (count < waiting.length) {
                waiting[count] = number;
                count++;
            }
        }

        private int last() {
            if (count <= 0) {
                return 0;
            }
            count--;
            return waiting[count];
        }

        private static int named(int name, Spa spa, int crease) {
            int person = spa.owner[crease];
            switch (name) {
                case HOUR: return spa.now.hour;
                case HEAT: return spa.heat;
                case WHO: return person;
                case SKIN: return spa.skin[person];
                case YEAR: return spa.year[crease];
                case DEPTH: return spa.now.depth[crease];
                case WORTH: return spa.worth[crease];
                case COINS: return spa.now.coins[person];
                default: return Integer.bitCount(spa.hanging[crease]);
            }
        }

        private static int ofOne(int kind, int one, Spa spa) {
            switch (kind) {
                case NOT: return one == 0 ? 1 : 0;
                case NEGATIVE: return -one;
                case DEEP: return spa.isCrease(one) ? spa.now.depth[one] : 0;
                default: return turnedAbout(Math.abs(one));
            }
        }

        private static int turnedAbout(int size) {
            int turned = 0;
            for (int left = size; left > 0; left /= 10) {
                turned = turned * 10 + left % 10;
            }
            return turned;
        }

        private static int ofTwo(int kind, int left, int right) {
            switch (kind) {
                case PLUS: return kept(left + right);
                case MINUS: return kept(left - right);
                case TIMES: return kept((long) left * right);
                case PARTS: return right == 0 ? 0 : left / right;
                case BELOW: return left < right ? 1 : 0;
                case AT_MOST: return left <= right ? 1 : 0;
                case ABOVE: return left > right ? 1 : 0;
                case AT_LEAST: return left >= right ? 1 : 0;
                case LIKE: return left == right ? 1 : 0;
                case UNLIKE: return left != right ? 1 : 0;
                case AND: return left & right;
                default: return left | right;
            }
        }

        private static int kept(long number) {
            return (int) Math.max(-FARTHEST, Math.min(FARTHEST, number));
        }
    }

    /** Lays WORK on hands. */
    private static final class Hands {
        int soonest;
        final int[] best = new int[MOST_TOLD];
        private Told work;
        private int hands;
        private final int[] ends = new int[MOST_HANDS];
        private final int[] laid = new int[MOST_TOLD];

        void lay(Told allWork, int m) {
            work = allWork;
            hands = Math.min(m, MOST_HANDS);
            soonest = MORE_THAN_ANY;
            for (int i = 0; i < MOST_HANDS; i++) {
                ends[i] = 0;
            }
            layFrom(this, 0, 0, 0);
        }

        // The lowest hands are tried first and only a sooner end takes the place of one that
        // was found, so of like ones the lowest stays. Of the hands that have no work yet
        // the lowest is as good as any.
        private static void layFrom(Hands laying, int i, int used, int end) {
            if (end >= laying.soonest) {
                return;
            }
            if (i >= laying.work.count || i >= MOST_TOLD) {
                laying.soonest = end;
                System.arraycopy(laying.laid, 0, laying.best, 0, MOST_TOLD);
                return;
            }
            int hours = laying.work.first[i];
            for (int hand = 0; hand <= used && hand < laying.hands; hand++) {
                laying.laid[i] = hand;
                laying.ends[hand] += hours;
                layFrom(laying, i + 1, Math.max(used, hand + 1), Math.max(end, laying.ends[hand]));
                laying.ends[hand] -= hours;
            }
        }
    }

    /** Finds the sets of CREASES of a PERSON by which all SEAMS are so. */
    private static final class Finder {
        int found;
        private Spa spa;
        private int creases;
        private final int[] crease = new int[MOST_CREASES];
        private final int[] with = new int[MOST_CREASES];
        private final int[] left = new int[MOST_TOLD];

        void find(Spa where, int person) {
            spa = where;
            creases = 0;
            for (int i = 0; i < spa.now.creases; i++) {
                if (spa.owner[i] == person) {
                    crease[creases] = i;
                    with[creases] = 0;
                    creases++;
                }
            }
            System.arraycopy(spa.seams.third, 0, left, 0, MOST_TOLD);
            found = findFrom(this, 0);
        }

        private static int findFrom(Finder finding, int i) {
            if (i >= finding.creases || i >= MOST_CREASES) {
                return finding.nothingLeft() ? 1 : 0;
            }
            int without = findFrom(finding, i + 1);
            int with = finding.take(finding.crease[i], 1) ? findFrom(finding, i + 1) : 0;
            finding.take(finding.crease[i], -1);
            finding.with[i] += with;
            return without + with;
        }

        private boolean nothingLeft() {
            for (int i = 0; i < spa.seams.count; i++) {
                if (left[i] != 0) {
                    return false;
                }
            }
            return true;
        }

        /** Whether no SEAM has more than its sum then. */
        private boolean take(int one, int times) {
            boolean fits = true;
            for (int i = 0; i < spa.seams.count; i++) {
                if (spa.year[one] >= spa.seams.first[i] && spa.year[one] <= spa.seams.second[i]) {
                    left[i] -= times * spa.depthTold[one];
                    fits &= left[i] >= 0;
                }
            }
            return fits;
        }

        int sure() {
            int set = 0;
            for (int i = 0; i < creases && found > 0; i++) {
                set |= with[i] == found ? 1 << crease[i] : 0;
            }
            return set;
        }

        int never() {
            int set = 0;
            for (int i = 0; i < creases && found > 0; i++) {
                set |= with[i] == 0 ? 1 << crease[i] : 0;
            }
            return set;
        }

        int asked() {
            int asked = NONE;
            int nearest = MORE_THAN_ANY;
            for (int i = 0; i < creases; i++) {
                int off = Math.abs(2 * with[i] - found);
                if (with[i] > 0 && with[i] < found && off < nearest) {
                    asked = crease[i];
                    nearest = off;
                }
            }
            return asked;
        }
    }

    /** What is asked and changes nothing. */
    private static final class Reckoner {
        private final int[] near = new int[MOST_CREASES];
        private final int[] has = new int[MOST_NEPHEWS];

        int depthBehind(Spa spa, int n, int crease) {
            int depth = spa.now.depth[crease];
            int end = Math.min(spa.now.hour + n, LAST_HOUR);
            if (!spa.isThere(crease)) {
                return depth;
            }
            // An HOUR whose number ends in 9 deepens, so this is how many tens are begun.
            int times = end / 10 - spa.now.hour / 10;
            return Math.min(spa.depthTold[crease], depth + times);
        }

        int setToPress(Spa spa) {
            int there = spa.allThere();
            int go = wantedTo(spa, 1) & there;
            int stay = wantedTo(spa, 0) & there;
            int best = NONE;
            int least = MORE_THAN_ANY;
            int set = 0;
            for (int i = 0; i < 1 << Integer.bitCount(there); i++) {
                if ((set & stay) == 0 && (set & go) == go && isWhole(spa, set, there)) {
                    // No set has thirteen, so one number weighs WORTH first and then how many.
                    int weight = spa.worthOf(set) * (MOST_CREASES + 1) + Integer.bitCount(set);
                    best = weight < least ? set : best;
                    least = Math.min(least, weight);
                }
                set = set - there & there;
            }
            return best;
        }

        private int wantedTo(Spa spa, int go) {
            int set = 0;
            for (int i = 0; i < spa.wanted.count; i++) {
                int bit = 1 << spa.wanted.first[i];
                set = spa.wanted.second[i] == go ? set | bit : set & ~bit;
            }
            return set;
        }

        private boolean isWhole(Spa spa, int set, int there) {
            for (int i = 0; i < spa.now.creases; i++) {
                if ((set >> i & 1) == 1 && (spa.hanging[i] & there & ~set) != 0) {
                    return false;
                }
            }
            return true;
        }

        int flattest(Spa spa, int person, int k, int w) {
            int all = spa.creasesOf(person) & spa.allThere();
            for (int i = 0; i < spa.now.creases; i++) {
                near[i] = all & within(spa, spa.year[i], w);
            }
            int best = 0;
            int set = 0;
            for (int i = 0; i < 1 << Integer.bitCount(all); i++) {
                if (Integer.bitCount(set) > Integer.bitCount(best) && isFlat(spa, set, k)) {
                    best = set;
                }
                set = set - all & all;
            }
            return best;
        }

        private int within(Spa spa, int from, int years) {
            int set = 0;
            for (int i = 0; i < spa.now.creases; i++) {
                boolean isIn = spa.year[i] >= from && spa.year[i] < from + years;
                set |= isIn ? 1 << i : 0;
            }
            return set;
        }

        private boolean isFlat(Spa spa, int set, int k) {
            for (int i = 0; i < spa.now.creases; i++) {
                if ((set >> i & 1) == 1 && Integer.bitCount(set & near[i]) > k) {
                    return false;
                }
            }
            return true;
        }

        int longestSpan(Spa spa, int person) {
            int all = spa.creasesOf(person) & spa.allThere();
            int longest = 0;
            int span = 0;
            for (int year = 0; year <= MOST_YEAR; year++) {
                span = (all & within(spa, year, 1)) == 0 ? span + 1 : 0;
                longest = Math.max(longest, span);
            }
            return longest;
        }

        int wholeLaughs(Told nephews, int n, int i) {
            int weights = 0;
            for (int j = 0; j < nephews.count; j++) {
                weights += nephews.first[j];
            }
            if (weights <= 0) {
                return 0;
            }
            int left = n;
            int ahead = 0;
            int over = n * nephews.first[i] % weights;
            for (int j = 0; j < nephews.count; j++) {
                left -= n * nephews.first[j] / weights;
                int its = n * nephews.first[j] % weights;
                ahead += its > over || its == over && j < i ? 1 : 0;
            }
            return n * nephews.first[i] / weights + (ahead < left ? 1 : 0);
        }

        int laughsByTurns(Told nephews, int n, int i) {
            for (int j = 0; j < MOST_NEPHEWS; j++) {
                has[j] = 0;
            }
            for (int laugh = 0; laugh < n; laugh++) {
                int to = 0;
                for (int j = 1; j < nephews.count; j++) {
                    // A quotient is greater where the products across are.
                    boolean more = nephews.first[j] * (has[to] + 1) > nephews.first[to] * (has[j] + 1);
                    to = more ? j : to;
                }
                has[to]++;
            }
            return has[i];
        }

        /** Between two offers a higher price takes more, so an offer is best, or 0. */
        int bestPrice(Told offers) {
            int best = 0;
            for (int i = 0; i < offers.count; i++) {
                int price = offers.first[i];
                int more = takings(offers, price) - takings(offers, best);
                best = more > 0 || more == 0 && price < best ? price : best;
            }
            return best;
        }

        int takings(Told offers, int price) {
            int sum = 0;
            for (int i = 0; i < offers.count; i++) {
                sum += offers.first[i] >= price ? price : 0;
            }
            return sum;
        }

        /** Of 100 to the n ways those in which k or more are wrong, each by so many of 100. */
        long wrongWays(int n, int k, int each) {
            long ways = 0;
            long choices = 1;
            for (int wrong = 0; wrong <= n; wrong++) {
                if (wrong >= k) {
                    ways += choices * power(each, wrong) * power(100 - each, n - wrong);
                }
                choices = choices * (n - wrong) / (wrong + 1);
            }
            return ways;
        }

        long power(long base, int times) {
            long product = 1;
            for (int i = 0; i < times; i++) {
                product *= base;
            }
            return product;
        }

        long commonPart(long one, long other) {
            // Euclid's steps on 18 digits are fewer than a hundred.
            for (int i = 0; i < 1000 && other != 0; i++) {
                long rest = one % other;
                one = other;
                other = rest;
            }
            return one;
        }

        int eldestThere(Spa spa, int person) {
            int eldest = NONE;
            int least = MOST_YEAR + 1;
            for (int i = 0; i < spa.now.creases; i++) {
                if (spa.owner[i] == person && spa.isThere(i) && spa.year[i] < least) {
                    eldest = i;
                    least = spa.year[i];
                }
            }
            return eldest;
        }

        int tensOfYears(Spa spa, int person) {
            int tens = 0;
            for (int i = 0; i < spa.now.creases; i++) {
                if (spa.owner[i] == person && spa.isThere(i)) {
                    tens |= 1 << spa.year[i] / 10;
                }
            }
            return tens;
        }
    }
}
