/** Widows of one street share one portrait of him, a week in each house by a rota. README.md says how to use it. */
public final class OnePortrait {
    private static final int WIDOWS = 7;
    private static final int KINDS = 6;
    private static final int FIGURES = 10;
    private static final int PARTS = 3;
    private static final int PLACES = 12;
    private static final int DAYS = 12;
    private static final int LETTERS = 96;
    private static final int ROW = 12;
    private static final int BACKS = 8;

    private static final int TOP = 99;
    private static final int FRESH = 90;
    private static final int LAST_WEEK = 999;
    private static final int AHEAD = 60;
    private static final int YEAR = 12;
    private static final int YEARS = 20;
    private static final int GALE_WEEKS = 7;
    private static final int GALE_ODDS = 20;
    private static final int SENDER_GAIN = 3;

    private static final int CHAPEL = 9;
    private static final int CHAPEL_HOUSE = 7;
    private static final int NONE = -9;
    private static final int FINE = 0;

    private static final int NOBODY = -1;
    private static final int OTHER = -2;
    private static final int STATE = -3;
    private static final int BELOW = -4;
    private static final int ROOM = -6;
    private static final int EASED_REFUSED = 1000000000;
    private static final long LONG_REFUSED = 4000000000000000000L;

    private final Street now;
    /** The street of all that is only thought of; every such call begins with a copy of now. */
    private final Street mind;
    private final Street pictured;
    private boolean hasPicture;
    private final Past past;
    private final Text text;
    private final Numbers numbers;
    private final int[] refusals;

    public OnePortrait() {
        now = new Street();
        mind = new Street();
        pictured = new Street();
        hasPicture = false;
        past = new Past();
        text = new Text();
        numbers = new Numbers(ROW);
        refusals = new int[7];
    }

    // ---- I: letters and streets ----

    public int feed(int letter) {
        int no = rangeFault(letter, 0, 255);
        if (no == FINE && text.length >= LETTERS) {
            no = ROOM;
        }
        if (no != FINE) {
            return refuse(no);
        }
        return text.add(letter);
    }

    public int street() {
        int answer = readText();
        text.length = 0;
        return answer;
    }

    /** All STATEMENTS are tried in mind first, so that with a FAULT nothing comes. */
    private int readText() {
        int bad = text.firstBadPlace();
        if (bad >= 0) {
            return -1000 - bad;
        }
        mind.become(now);
        int statements = 0;
        for (int place = 0; place < text.length; place += 2 + Math.max(0, text.digitsAt(place))) {
            if (!stands(place)) {
                return -2000 - place;
            }
            statements++;
        }
        now.become(mind);
        past.forget();
        return statements;
    }

    /** Whether the STATEMENT at a place of the text is as it must be; it is done in mind then. */
    private boolean stands(int place) {
        switch (text.at(place)) {
            case 'w':
                return mind.addWidow(text.number(place + 1, 1), text.number(place + 2, 1),
                        text.number(place + 3, 2), text.number(place + 5, 2));
            case 'r':
                return mind.setPlace(mind.places, text.number(place + 1, 1));
            case 'x':
                mind.places = 0;
                return true;
            case 'm':
                return mind.setSeen(text.number(place + 1, 1), text.number(place + 2, 2));
            case 'g':
                return mind.setGrief(text.number(place + 1, 1), text.number(place + 2, 2));
            case 'k':
                return mind.letPass(text.number(place + 1, 2));
            default:
                return false;
        }
    }

    // ---- I: what is so ----

    public int widowOf(int widow, int what) {
        int no = either(widowFault(widow), whatFault(what, 6));
        if (no != FINE) {
            return refuse(no);
        }
        switch (what) {
            case 0:
                return now.kindOf(widow);
            case 1:
                return now.figureOf(widow);
            case 2:
                return now.griefOf(widow);
            case 3:
                return now.dayOf(widow);
            case 4:
                return now.metOf(widow);
            case 5:
                return now.comfortOf(widow);
            default:
                return now.turnsOf(widow);
        }
    }

    public int wears(int widow, int part) {
        int no = either(widowFault(widow), partFault(part));
        if (no != FINE) {
            return refuse(no);
        }
        return 10 + now.wearOf(widow, part);
    }

    public int seen(int part) {
        int no = partFault(part);
        if (no != FINE) {
            return refuse(no);
        }
        return now.seenOf(part);
    }

    public int rota(int place) {
        if (place < 0 || place >= now.places) {
            return refuse(NOBODY);
        }
        return now.whoseIs(place);
    }

    // ---- I: what changes ----

    public int widow(int kind, int figure, int grief, int day) {
        if (kind < 0 || kind >= KINDS) {
            return refuse(OTHER);
        }
        if (figure < 0 || grief < 0 || day < 0) {
            return refuse(BELOW);
        }
        if (!now.addWidow(kind, figure, grief, day)) {
            return refuse(ROOM);
        }
        past.forget();
        return now.widows - 1;
    }

    public int puts(int place, int widow) {
        if (place < 0 || place > now.places || !now.canHang(widow)) {
            return refuse(NOBODY);
        }
        if (place >= PLACES) {
            return refuse(ROOM);
        }
        int was = now.whoseIs(place);
        past.keep(now);
        now.setPlace(place, widow);
        return was;
    }

    public int mends(int part, int v) {
        int no = either(partFault(part), rangeFault(v, 0, TOP));
        if (no != FINE) {
            return refuse(no);
        }
        int was = now.seenOf(part);
        past.keep(now);
        now.setSeen(part, v);
        return was;
    }

    public int grieves(int widow, int v) {
        int no = either(widowFault(widow), rangeFault(v, 0, TOP));
        if (no != FINE) {
            return refuse(no);
        }
        int was = now.griefOf(widow);
        past.keep(now);
        now.setGrief(widow, v);
        return was;
    }

    public int weeks(int n) {
        int no = rangeFault(n, 1, AHEAD);
        if (no == FINE && now.week + n > LAST_WEEK) {
            no = ROOM;
        }
        if (no != FINE) {
            return refuse(no);
        }
        past.keep(now);
        now.passWeeks(n);
        return now.allGrief();
    }

    public int back() {
        if (!past.giveBack(now)) {
            return refuse(STATE);
        }
        return past.held;
    }

    // ---- II: in mind ----

    public int then(int n, int what) {
        int no = either(rangeFault(n, 0, AHEAD), whatFault(what, 4));
        if (no != FINE) {
            return refuse(no);
        }
        thinkAhead(n);
        switch (what) {
            case 0:
                return mind.hostIn(0);
            case 1:
                return mind.allGrief();
            default:
                return mind.seenOf(what - 2);
        }
    }

    public int widowIn(int widow, int n, int what) {
        int no = either(either(widowFault(widow), rangeFault(n, 0, AHEAD)), whatFault(what, 1));
        if (no != FINE) {
            return refuse(no);
        }
        thinkAhead(n);
        return what == 0 ? mind.griefOf(widow) : mind.metOf(widow);
    }

    public int gone(int part) {
        if (part == -1) {
            return firstGone();
        }
        int no = partFault(part);
        if (no != FINE) {
            return refuse(no);
        }
        mind.become(now);
        for (int n = 0; n <= AHEAD; n++) {
            if (mind.seenOf(part) == 0) {
                return n;
            }
            mind.passWeek(false);
        }
        return NONE;
    }

    private int firstGone() {
        mind.become(now);
        for (int n = 0; n <= AHEAD; n++) {
            for (int part = 0; part < PARTS; part++) {
                if (mind.seenOf(part) == 0) {
                    return part;
                }
            }
            mind.passWeek(false);
        }
        return NONE;
    }

    public int dayMet(int widow) {
        int no = widowFault(widow);
        if (no != FINE) {
            return refuse(no);
        }
        mind.become(now);
        for (int n = 1; n <= AHEAD; n++) {
            mind.passWeek(false);
            if (mind.metOf(widow) > now.metOf(widow)) {
                return n;
            }
        }
        return NONE;
    }

    public int like() {
        int best = NONE;
        int most = -1;
        for (int w = 0; w < now.widows; w++) {
            int likeness = now.seenOf(w % PARTS) + now.griefOf(w);
            if (likeness > most) {
                most = likeness;
                best = w;
            }
        }
        return best;
    }

    public int turn(int widow, int n) {
        int no = either(widowFault(widow), rangeFault(n, 0, AHEAD));
        if (no == FINE && now.places >= PLACES) {
            no = ROOM;
        }
        if (no != FINE) {
            return refuse(no);
        }
        int best = 0;
        int least = 0;
        for (int place = 0; place <= now.places; place++) {
            mind.become(now);
            mind.putIn(place, widow);
            mind.passWeeks(n);
            int grief = mind.allGrief();
            if (place == 0 || grief < least) {
                least = grief;
                best = place;
            }
        }
        return best;
    }

    /** "Less than now" is taken as: less than behind n WEEKS by the ROTA as it is now. */
    public int swap(int n) {
        int no = rangeFault(n, 0, AHEAD);
        if (no != FINE) {
            return refuse(no);
        }
        thinkAhead(n);
        int least = mind.allGrief();
        int best = NONE;
        for (int lesser = 0; lesser < now.places; lesser++) {
            for (int greater = lesser + 1; greater < now.places; greater++) {
                mind.become(now);
                mind.setPlace(lesser, now.whoseIs(greater));
                mind.setPlace(greater, now.whoseIs(lesser));
                mind.passWeeks(n);
                int grief = mind.allGrief();
                if (grief < least) {
                    least = grief;
                    best = 100 * lesser + greater;
                }
            }
        }
        return best;
    }

    public int leave(int n) {
        int no = rangeFault(n, 0, AHEAD);
        if (no != FINE) {
            return refuse(no);
        }
        thinkAhead(n);
        int most = mind.allSeen();
        int best = NONE;
        for (int w = 0; w < now.widows; w++) {
            mind.become(now);
            mind.leaveOut(w);
            mind.passWeeks(n);
            int sight = mind.allSeen();
            if (sight > most) {
                most = sight;
                best = w;
            }
        }
        return best;
    }

    public int mend(int n) {
        int no = rangeFault(n, 0, AHEAD);
        if (no != FINE) {
            return refuse(no);
        }
        thinkAhead(n);
        int least = mind.allGrief();
        int best = NONE;
        for (int part = 0; part < PARTS; part++) {
            mind.become(now);
            mind.setSeen(part, FRESH);
            mind.passWeeks(n);
            int grief = mind.allGrief();
            if (grief < least) {
                least = grief;
                best = part;
            }
        }
        return best;
    }

    public int lasts(int v) {
        int no = rangeFault(v, 0, TOP);
        if (no != FINE) {
            return refuse(no);
        }
        mind.become(now);
        for (int n = 0; n < AHEAD; n++) {
            mind.passWeek(false);
            if (mind.leastSeen() < v) {
                return n;
            }
        }
        return AHEAD;
    }

    public int carry(int n) {
        int no = rangeFault(n, 1, AHEAD);
        if (no != FINE) {
            return refuse(no);
        }
        int passed = 0;
        int house = houseIn(0);
        for (int i = 1; i <= n; i++) {
            int other = houseIn(i);
            passed += Math.abs(other - house);
            house = other;
        }
        return passed;
    }

    private int houseIn(int n) {
        int host = now.hostIn(n);
        return host == CHAPEL ? CHAPEL_HOUSE : host;
    }

    public int bestRota(int i) {
        int no = rangeFault(i, -1, DAYS - 1);
        if (no != FINE) {
            return refuse(no);
        }
        if (i >= 0) {
            return bestOn(i);
        }
        int unmet = 0;
        for (int w = 0; w < now.widows; w++) {
            if (bestOn(now.dayOf(w)) != w) {
                unmet++;
            }
        }
        return unmet;
    }

    private int bestOn(int day) {
        int best = CHAPEL;
        int most = -1;
        for (int w = 0; w < now.widows; w++) {
            if (now.dayOf(w) == day && now.griefOf(w) > most) {
                most = now.griefOf(w);
                best = w;
            }
        }
        return best;
    }

    public int whoHad(int part) {
        int no = partFault(part);
        if (no != FINE) {
            return refuse(no);
        }
        int bits = 0;
        for (int w = 0; w < now.widows; w++) {
            mind.become(now);
            mind.places = 0;
            mind.setPlace(0, w);
            if (mindWearsLikeRow(part)) {
                bits |= 1 << w;
            }
        }
        return bits;
    }

    public int whatKind(int widow, int part, int what) {
        int no = either(either(widowFault(widow), partFault(part)), whatFault(what, 1));
        if (no != FINE) {
            return refuse(no);
        }
        int bits = 0;
        int guesses = what == 0 ? KINDS : FIGURES;
        for (int guess = 0; guess < guesses; guess++) {
            mind.become(now);
            if (what == 0) {
                mind.pretend(widow, guess, now.figureOf(widow));
            } else {
                mind.pretend(widow, now.kindOf(widow), guess);
            }
            if (mindWearsLikeRow(part)) {
                bits |= 1 << guess;
            }
        }
        return bits;
    }

    /** Lets WEEKS go by in mind for as long as the ROW tells them. */
    private boolean mindWearsLikeRow(int part) {
        for (int i = 0; i < numbers.length; i++) {
            if (mind.seenOf(part) != numbers.at(i)) {
                return false;
            }
            mind.passWeek(false);
        }
        return true;
    }

    public int two(int one, int other, int n) {
        int no = either(widowFault(one), widowFault(other));
        if (no == FINE && one == other) {
            no = NOBODY;
        }
        no = either(no, rangeFault(n, 0, AHEAD));
        if (no != FINE) {
            return refuse(no);
        }
        for (int sends = 0; sends <= 1; sends++) {
            for (int otherSends = 0; otherSends <= 1; otherSends++) {
                if (isContent(one, other, sends, otherSends, n) && isContent(other, one, otherSends, sends, n)) {
                    return 10 * sends + otherSends;
                }
            }
        }
        return NONE;
    }

    private boolean isContent(int her, int other, int sends, int otherSends, int n) {
        return burden(her, other, sends, otherSends, n) <= burden(her, other, 1 - sends, otherSends, n);
    }

    private int burden(int her, int other, int sends, int otherSends, int n) {
        mind.become(now);
        if (sends == 1) {
            mind.leaveOut(her);
        }
        if (otherSends == 1) {
            mind.leaveOut(other);
        }
        mind.passWeeks(n);
        return mind.griefOf(her) - SENDER_GAIN * sends;
    }

    public long gales(int widow, int n, int t, int v, int part) {
        int no = widowFault(widow);
        if (no == FINE && (n < 0 || v < 0 || t < 2)) {
            no = BELOW;
        }
        if (no == FINE && (n > GALE_WEEKS || t > GALE_ODDS || v > TOP)) {
            no = ROOM;
        }
        no = either(no, whatFault(part, 1));
        if (no != FINE) {
            return LONG_REFUSED - refuse(no);
        }
        long all = 1;
        for (int i = 0; i < n; i++) {
            all *= t;
        }
        return inLowestTerms(calmWeight(widow, n, t, v), all, part);
    }

    /** Of t to the n skies, in how many GRIEF is v or less: a sky of bits has a gale in each WEEK whose bit is 1. */
    private long calmWeight(int widow, int n, int t, int v) {
        long sum = 0;
        int skies = 1 << n;
        for (int sky = 0; sky < skies; sky++) {
            long weight = 1;
            mind.become(now);
            for (int i = 0; i < n; i++) {
                boolean gale = (sky >> i & 1) == 1;
                mind.passWeek(gale);
                weight *= gale ? 1 : t - 1;
            }
            if (mind.griefOf(widow) <= v) {
                sum += weight;
            }
        }
        return sum;
    }

    // ---- III and IV: looking at it ----

    public int worst(int what) {
        int no = whatFault(what, 2);
        if (no != FINE) {
            return refuse(no);
        }
        switch (what) {
            case 0:
                return now.mostGrieved();
            case 1:
                return now.withoutTurn();
            default:
                return now.daysShared();
        }
    }

    public long mean(int part) {
        int no = whatFault(part, 1);
        if (no != FINE) {
            return LONG_REFUSED - refuse(no);
        }
        return inLowestTerms(now.allGrief(), Math.max(1, now.widows), part);
    }

    public int face(int what) {
        int no = whatFault(what, 1);
        if (no != FINE) {
            return refuse(no);
        }
        return what == 0 ? now.allSeen() : now.clearestPart();
    }

    public int next(int widow) {
        int no = widowFault(widow);
        if (no != FINE) {
            return refuse(no);
        }
        for (int n = 0; n <= AHEAD; n++) {
            if (now.hostIn(n) == widow) {
                return n;
            }
        }
        return NONE;
    }

    /** The next WEEKS are those that go by next: this WEEK is the first of them. */
    public int gap(int widow) {
        int no = widowFault(widow);
        if (no != FINE) {
            return refuse(no);
        }
        int longest = 0;
        int run = 0;
        for (int i = 0; i < AHEAD; i++) {
            run = now.hostIn(i) == widow ? 0 : run + 1;
            longest = Math.max(longest, run);
        }
        return longest;
    }

    public int eased(int widow, int n) {
        int no = either(widowFault(widow), rangeFault(n, 0, AHEAD));
        if (no != FINE) {
            return EASED_REFUSED - refuse(no);
        }
        thinkAhead(n);
        return now.griefOf(widow) - mind.griefOf(widow);
    }

    public int sundays(int n) {
        int no = rangeFault(n, 0, AHEAD);
        if (no != FINE) {
            return refuse(no);
        }
        return weeksWith(CHAPEL, n);
    }

    public int kept() {
        int best = NONE;
        int most = 0;
        for (int w = 0; w < now.widows; w++) {
            int stay = weeksWith(w, AHEAD);
            if (stay > most) {
                most = stay;
                best = w;
            }
        }
        return best;
    }

    private int weeksWith(int host, int n) {
        int sum = 0;
        for (int i = 0; i < n; i++) {
            if (now.hostIn(i) == host) {
                sum++;
            }
        }
        return sum;
    }

    // ---- the ROW ----

    public int row(int v) {
        int no = rangeFault(v, 0, TOP);
        if (no == FINE && numbers.length >= ROW) {
            no = ROOM;
        }
        if (no != FINE) {
            return refuse(no);
        }
        return numbers.add(v);
    }

    public int judge() {
        int answer = NONE;
        for (int i = 0; i < numbers.length; i++) {
            if (!now.hasWidow(i) || now.griefOf(i) != numbers.at(i)) {
                answer = i;
                break;
            }
        }
        numbers.length = 0;
        return answer;
    }

    public int clear() {
        int had = numbers.length;
        numbers.length = 0;
        return had;
    }

    // ---- lots, the image, how many ----

    public int lots(int n, int z, int what) {
        int no = either(rangeFault(n, 1, YEARS), whatFault(what, 1));
        if (no == FINE && now.widows == 0) {
            no = STATE;
        }
        if (no != FINE) {
            return refuse(no);
        }
        int sum = 0;
        int seed = z;
        for (int year = 0; year < n; year++) {
            mind.become(now);
            seed = mind.drawRota(seed);
            mind.passWeeks(YEAR);
            sum += what == 0 ? mind.allGrief() : mind.allMet() - now.allMet();
        }
        return sum;
    }

    public int image() {
        pictured.become(now);
        hasPicture = true;
        return now.week;
    }

    public int restore() {
        if (!hasPicture) {
            return refuse(STATE);
        }
        now.become(pictured);
        past.forget();
        return now.week;
    }

    public int count(int what) {
        switch (what) {
            case 0:
                return now.widows;
            case 1:
                return now.week;
            case 2:
                return now.places;
            case 3:
                return now.hostIn(0);
            case 4:
                return now.allGrief();
            case 5:
                return now.allMet();
            case 6:
                return text.length;
            case 7:
                return numbers.length;
            case 8:
                return past.held;
            default:
                return what >= 11 && what <= 16 ? refusalsOf(10 - what) : NONE;
        }
    }

    // ---- what the calls above share ----

    private void thinkAhead(int n) {
        mind.become(now);
        mind.passWeeks(n);
    }

    private int refuse(int number) {
        int i = -number;
        if (i >= 0 && i < refusals.length) {
            refusals[i]++;
        }
        return number;
    }

    private int refusalsOf(int number) {
        int i = -number;
        return i >= 0 && i < refusals.length ? refusals[i] : 0;
    }

    private int widowFault(int widow) {
        return now.hasWidow(widow) ? FINE : NOBODY;
    }

    private static int partFault(int part) {
        return part >= 0 && part < PARTS ? FINE : OTHER;
    }

    private static int whatFault(int what, int last) {
        return what >= 0 && what <= last ? FINE : OTHER;
    }

    private static int rangeFault(int v, int least, int greatest) {
        if (v < least) {
            return BELOW;
        }
        return v > greatest ? ROOM : FINE;
    }

    private static int either(int first, int second) {
        return first != FINE ? first : second;
    }

    private static long inLowestTerms(long above, long below, int part) {
        long divisor = commonDivisor(above, below);
        if (divisor <= 0) {
            return part == 0 ? above : below;
        }
        return part == 0 ? above / divisor : below / divisor;
    }

    private static long commonDivisor(long one, long other) {
        long a = one;
        long b = other;
        // Euclid needs fewer than 100 steps for any two longs
        for (int i = 0; i < 100 && b != 0; i++) {
            long rest = a % b;
            a = b;
            b = rest;
        }
        return a;
    }

    /** All that there is of part I, but letters, the ROW, REFUSALS and the image. */
    private static final class Street {
        private static final int WEEPER = 1;
        private static final int SMOKER = 2;
        private static final int KISSER = 3;
        private static final int SLAPPER = 4;
        private static final int BETROTHED = 5;
        private static final int EYE = 0;
        private static final int BEARD = 1;
        private static final int BLUE = 2;

        private final int[] kind;
        private final int[] figure;
        private final int[] grief;
        private final int[] day;
        private final int[] met;
        private final int[] sight;
        private final int[] hosts;
        private int widows;
        private int places;
        private int week;

        Street() {
            kind = new int[WIDOWS];
            figure = new int[WIDOWS];
            grief = new int[WIDOWS];
            day = new int[WIDOWS];
            met = new int[WIDOWS];
            sight = new int[PARTS];
            hosts = new int[PLACES];
            for (int part = 0; part < PARTS; part++) {
                sight[part] = FRESH;
            }
            widows = 0;
            places = 0;
            week = 0;
        }

        void become(Street other) {
            if (other == null) {
                return;
            }
            widows = other.widows;
            places = other.places;
            week = other.week;
            for (int w = 0; w < WIDOWS; w++) {
                kind[w] = other.kind[w];
                figure[w] = other.figure[w];
                grief[w] = other.grief[w];
                day[w] = other.day[w];
                met[w] = other.met[w];
            }
            for (int part = 0; part < PARTS; part++) {
                sight[part] = other.sight[part];
            }
            for (int place = 0; place < PLACES; place++) {
                hosts[place] = other.hosts[place];
            }
        }

        boolean hasWidow(int w) {
            return w >= 0 && w < widows && w < WIDOWS;
        }

        boolean canHang(int host) {
            return host == CHAPEL || hasWidow(host);
        }

        int kindOf(int w) {
            return hasWidow(w) ? kind[w] : 0;
        }

        int figureOf(int w) {
            return hasWidow(w) ? figure[w] : 0;
        }

        int griefOf(int w) {
            return hasWidow(w) ? grief[w] : 0;
        }

        int dayOf(int w) {
            return hasWidow(w) ? day[w] : 0;
        }

        int metOf(int w) {
            return hasWidow(w) ? met[w] : 0;
        }

        int seenOf(int part) {
            return part >= 0 && part < PARTS ? sight[part] : 0;
        }

        int whoseIs(int place) {
            return place >= 0 && place < places && place < PLACES ? hosts[place] : CHAPEL;
        }

        int hostIn(int n) {
            return places > 0 ? whoseIs((week + n) % places) : CHAPEL;
        }

        /** Whether all of it is in range and there is room; only then she comes. */
        boolean addWidow(int ofKind, int ofFigure, int ofGrief, int ofDay) {
            boolean right = ofKind >= 0 && ofKind < KINDS && ofFigure >= 0 && ofFigure < FIGURES
                    && ofGrief >= 0 && ofGrief <= TOP && ofDay >= 0 && ofDay < DAYS;
            int w = widows;
            if (!right || w < 0 || w >= WIDOWS) {
                return false;
            }
            kind[w] = ofKind;
            figure[w] = ofFigure;
            grief[w] = ofGrief;
            day[w] = ofDay;
            met[w] = 0;
            widows++;
            return true;
        }

        /** A place that there is, or the one behind the last. */
        boolean setPlace(int place, int host) {
            if (place < 0 || place > places || place >= PLACES || !canHang(host)) {
                return false;
            }
            hosts[place] = host;
            if (place == places) {
                places++;
            }
            return true;
        }

        /** A place more, ahead of the one that has this number; what is behind moves on. */
        void putIn(int place, int host) {
            if (place < 0 || place > places || places >= PLACES) {
                return;
            }
            for (int p = places; p > place; p--) {
                hosts[p] = hosts[p - 1];
            }
            hosts[place] = host;
            places++;
        }

        void leaveOut(int w) {
            for (int place = 0; place < PLACES; place++) {
                if (hosts[place] == w) {
                    hosts[place] = CHAPEL;
                }
            }
        }

        boolean setSeen(int part, int v) {
            if (part < 0 || part >= PARTS) {
                return false;
            }
            sight[part] = v;
            return true;
        }

        boolean setGrief(int w, int v) {
            if (!hasWidow(w)) {
                return false;
            }
            grief[w] = v;
            return true;
        }

        void pretend(int w, int ofKind, int ofFigure) {
            if (hasWidow(w)) {
                kind[w] = ofKind;
                figure[w] = ofFigure;
            }
        }

        /** Each place becomes a WIDOW's by a DRAW: the seed as it is then. */
        int drawRota(int seed) {
            int z = seed;
            for (int place = 0; place < places && place < PLACES && widows > 0; place++) {
                z = z * 1103515245 + 12345;
                hosts[place] = (z & 0x7fffffff) / 65536 % widows;
            }
            return z;
        }

        int wearOf(int w, int part) {
            if (!hasWidow(w)) {
                return 0;
            }
            switch (kind[w]) {
                case WEEPER:
                    return part == BLUE ? 1 + grief[w] / 20 : 1;
                case SMOKER:
                    return part == BEARD ? 1 + figure[w] / 2 : 1;
                case KISSER:
                    return part == EYE ? 1 + figure[w] / 3 : 1;
                case SLAPPER:
                    if (part == EYE) {
                        return -2;
                    }
                    return part == BLUE ? 1 + grief[w] / 20 : 1;
                case BETROTHED:
                    return part == EYE ? 2 + figure[w] / 3 : 2;
                default:
                    return 1;
            }
        }

        /** By the PARTS as they are, in this WEEK. */
        int comfortOf(int w) {
            if (!hasWidow(w)) {
                return 0;
            }
            int plain = sight[EYE] / 20 + 1;
            int onDay = day[w] == week % DAYS ? 10 : 0;
            switch (kind[w]) {
                case WEEPER:
                    return plain + 2 + onDay;
                case SMOKER:
                    return sight[BEARD] / 10 + onDay;
                case KISSER:
                    return 2 * plain + onDay;
                case SLAPPER:
                    return figure[w] + onDay;
                case BETROTHED:
                    return 2 * plain / 2 + onDay;
                default:
                    return plain + onDay;
            }
        }

        /** Whether so many WEEKS can go by; only then they do. */
        boolean letPass(int n) {
            if (n < 1 || n > AHEAD || week + n > LAST_WEEK) {
                return false;
            }
            for (int i = 0; i < n; i++) {
                passWeek(false);
            }
            return true;
        }

        /** However far: in mind WEEK may pass 999. */
        void passWeeks(int n) {
            for (int i = 0; i < n; i++) {
                passWeek(false);
            }
        }

        void passWeek(boolean gale) {
            int host = gale ? CHAPEL : hostIn(0);
            if (hasWidow(host)) {
                hangWith(host);
            }
            for (int w = 0; w < widows && w < WIDOWS; w++) {
                if (w != host && grief[w] < TOP) {
                    grief[w]++;
                }
            }
            week++;
        }

        /** COMFORT by the PARTS ahead of WEARS, WEARS by GRIEF behind COMFORT. */
        private void hangWith(int w) {
            if (!hasWidow(w)) {
                return;
            }
            if (day[w] == week % DAYS && met[w] < TOP) {
                met[w]++;
            }
            grief[w] = Math.max(0, grief[w] - comfortOf(w));
            for (int part = 0; part < PARTS; part++) {
                sight[part] = Math.max(0, Math.min(TOP, sight[part] - wearOf(w, part)));
            }
        }

        int allGrief() {
            int sum = 0;
            for (int w = 0; w < widows; w++) {
                sum += griefOf(w);
            }
            return sum;
        }

        int allMet() {
            int sum = 0;
            for (int w = 0; w < widows; w++) {
                sum += metOf(w);
            }
            return sum;
        }

        int allSeen() {
            return sight[EYE] + sight[BEARD] + sight[BLUE];
        }

        int leastSeen() {
            return Math.min(sight[EYE], Math.min(sight[BEARD], sight[BLUE]));
        }

        int clearestPart() {
            int best = EYE;
            for (int part = 1; part < PARTS; part++) {
                if (sight[part] > seenOf(best)) {
                    best = part;
                }
            }
            return best;
        }

        int turnsOf(int w) {
            int sum = 0;
            for (int place = 0; place < places; place++) {
                if (whoseIs(place) == w) {
                    sum++;
                }
            }
            return sum;
        }

        int mostGrieved() {
            int best = NONE;
            int most = -1;
            for (int w = 0; w < widows; w++) {
                if (griefOf(w) > most) {
                    most = griefOf(w);
                    best = w;
                }
            }
            return best;
        }

        int withoutTurn() {
            int bits = 0;
            for (int w = 0; w < widows; w++) {
                if (turnsOf(w) == 0) {
                    bits |= 1 << w;
                }
            }
            return bits;
        }

        int daysShared() {
            int sum = 0;
            for (int w = 0; w < widows; w++) {
                for (int v = w + 1; v < widows; v++) {
                    if (dayOf(w) == dayOf(v)) {
                        sum++;
                    }
                }
            }
            return sum;
        }
    }

    /** Streets as they were, the latest on top of a ring: what falls out of it can be taken back no more. */
    private static final class Past {
        private final Street[] ring;
        private int free;
        private int held;

        Past() {
            ring = new Street[BACKS];
            for (int i = 0; i < BACKS; i++) {
                ring[i] = new Street();
            }
            free = 0;
            held = 0;
        }

        void keep(Street street) {
            Street slot = slotAt(free);
            if (slot == null) {
                return;
            }
            slot.become(street);
            free = (free + 1) % BACKS;
            held = Math.min(BACKS, held + 1);
        }

        boolean giveBack(Street street) {
            int latest = (free + BACKS - 1) % BACKS;
            Street slot = slotAt(latest);
            if (held == 0 || slot == null || street == null) {
                return false;
            }
            street.become(slot);
            free = latest;
            held--;
            return true;
        }

        void forget() {
            held = 0;
        }

        private Street slotAt(int i) {
            return i >= 0 && i < BACKS ? ring[i] : null;
        }
    }

    /** Numbers as they came, up to a bound: the ROW, and letters. */
    private static class Numbers {
        private final int[] values;
        int length;

        Numbers(int room) {
            values = new int[Math.max(0, room)];
            length = 0;
        }

        int add(int v) {
            if (length >= 0 && length < values.length) {
                values[length] = v;
                length++;
            }
            return length;
        }

        int at(int i) {
            return i >= 0 && i < length && i < values.length ? values[i] : -1;
        }
    }

    /** The letters that came, and how STATEMENTS stand in them. */
    private static final class Text extends Numbers {
        Text() {
            super(LETTERS);
        }

        /** How many digits the STATEMENT that begins there has; -1 if none can begin so. */
        int digitsAt(int place) {
            switch (at(place)) {
                case 'w':
                    return 6;
                case 'm':
                case 'g':
                    return 3;
                case 'k':
                    return 2;
                case 'r':
                    return 1;
                case 'x':
                    return 0;
                default:
                    return -1;
            }
        }

        int number(int place, int digits) {
            int value = 0;
            for (int i = 0; i < digits; i++) {
                value = 10 * value + at(place + i) - '0';
            }
            return value;
        }

        /** The place of a FAULT of kind 1; -1 if there is none. */
        int firstBadPlace() {
            int digitsDue = -1;
            for (int place = 0; place < length; place++) {
                int letter = at(place);
                if (digitsDue < 0) {
                    digitsDue = digitsAt(place);
                    if (digitsDue < 0) {
                        return place;
                    }
                } else if (digitsDue > 0) {
                    if (letter < '0' || letter > '9') {
                        return place;
                    }
                    digitsDue--;
                } else {
                    if (letter != ';') {
                        return place;
                    }
                    digitsDue = -1;
                }
            }
            return digitsDue < 0 && length > 0 ? -1 : length;
        }
    }
}
