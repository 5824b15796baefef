/** A king who cannot refuse a game plays his cousin at dice, and laws are argued about what he lost. */
public final class KingdomAtDice {
    public static final int NONE = -1, UNKNOWN = -101, OUTSIDE = -102, STATE = -103, FULL = -104;

    private static final int KING = 0, COUSIN = 1;
    private static final int BROTHER = 1, SELF = 2;
    private static final int DICE = 0, HEAVY = 1, TWINS = 2, LIGHT = 3, BONE = 4, KIND_MANY = 5;
    private static final int KING_ABOVE = 0, COUSIN_ABOVE = 1, ALIKE = 2, OUTCOME_MANY = 3;
    private static final int LEAST_SUM = 2, GREATEST_SUM = 12;
    private static final int LEAST_THINGS = 2, MOST_THINGS = 6;
    private static final int MOST_LETTERS = 22, MOST_SEEN = 8, MOST_THROWS = 30;
    private static final int MOST_BACK_THROWS = 5, MOST_HALLS_THROWS = 60;
    private static final int LEAST_CODE = 1, GREATEST_CODE = 126;
    private static final int LAW_OF_WRONGS = 1, LAW_OF_BROTHERS = 2, LAW_MANY = 4;
    private static final int THING_WHATS = 6, DICE_WHATS = 4, ODDS_WHATS = 6, COUNT_WHATS = 9;
    private static final int DIGEST_BACK_THROWS = 3;
    private static final long DIGEST_START = 983L;
    // Euclid takes fewer than 100 steps for any two longs.
    private static final int MOST_EUCLID_STEPS = 100;
    private static final String SORT_LETTERS = "jbs", KIND_LETTERS = "dhtlb";

    private final Page page;
    private final Dice[] kinds;
    private final Odds odds;
    private final Draws draws;
    private final Standing now;
    private final Standing kept;
    private Dice kingDice;
    private Dice cousinDice;
    private boolean isKept;
    private int hallsRead;

    public KingdomAtDice() {
        page = new Page();
        kinds = new Dice[] {new Dice(DICE, 1, 6), new Heavy(HEAVY, 2), new Twins(), new Light(), new Bone()};
        odds = new Odds();
        draws = new Draws();
        now = new Standing();
        kept = new Standing();
        kingDice = kinds[DICE];
        cousinDice = kinds[DICE];
        isKept = false;
        hallsRead = 0;
    }

    // ---- the hall

    public int letter(int code) {
        if (code < LEAST_CODE || code > GREATEST_CODE) {
            return OUTSIDE;
        }
        return page.isFull() ? FULL : page.push(code);
    }

    public int blank() {
        return page.clear();
    }

    public int fault() {
        return page.faultPlace();
    }

    public int hall() {
        if (!page.isHall()) {
            return STATE;
        }
        now.begin(page);
        kingDice = diceByLetter(page.kingKindCode());
        cousinDice = diceByLetter(page.cousinKindCode());
        odds.reckon(kingDice, cousinDice);
        isKept = false;
        hallsRead++;
        page.clear();
        return now.thingMany;
    }

    public int thing(int thing, int what) {
        if (!now.has(thing)) {
            return UNKNOWN;
        }
        return isBelow(what, THING_WHATS) ? now.things[thing].tell(what) : OUTSIDE;
    }

    public int dice(int who, int what) {
        if (!hasDice(who)) {
            return UNKNOWN;
        }
        return isBelow(what, DICE_WHATS) ? diceOf(who).tell(what) : OUTSIDE;
    }

    public int as(int who, int kind) {
        if (!hasDice(who)) {
            return UNKNOWN;
        }
        if (!isBelow(kind, KIND_MANY)) {
            return OUTSIDE;
        }
        return isOfKind(diceOf(who), kind) ? who : NONE;
    }

    public int ways(int who, int sum) {
        if (!hasDice(who)) {
            return UNKNOWN;
        }
        return isSum(sum) ? diceOf(who).waysOf(sum) : OUTSIDE;
    }

    // ---- throws

    public int play(int stake, int prize, int king, int cousin) {
        if (!now.has(stake) || prize != NONE && !now.has(prize)) {
            return UNKNOWN;
        }
        if (kingDice.waysOf(king) == 0 || cousinDice.waysOf(cousin) == 0) {
            return OUTSIDE;
        }
        if (!now.mayStake(stake, prize)) {
            return STATE;
        }
        if (now.throwMany >= MOST_THROWS) {
            return FULL;
        }
        return now.settle(stake, prize, king, cousin);
    }

    public int odds(int what) {
        if (!isBelow(what, ODDS_WHATS)) {
            return OUTSIDE;
        }
        if (!now.hasHall()) {
            return STATE;
        }
        // The parts stay below 1297, so the cast loses nothing.
        return (int) lowestTerm(odds.waysTo(what / 2), odds.total, what % 2);
    }

    // ---- what would be

    public long back(int thing, int throwMany, int what) {
        if (!now.has(thing)) {
            return UNKNOWN;
        }
        if (throwMany < 1 || throwMany > MOST_BACK_THROWS || !isBelow(what, 2)) {
            return OUTSIDE;
        }
        if (now.things[thing].isKings) {
            return STATE;
        }
        long above = waysBack(odds, throwMany, now.stakesFor(thing));
        return lowestTerm(above, power(odds.total, throwMany), what);
    }

    public int laws(int law, int what) {
        if (!isBelow(law, LAW_MANY) || !isBelow(what, 2)) {
            return OUTSIDE;
        }
        if (!now.hasHall()) {
            return STATE;
        }
        int kings = now.kingsBy(law);
        return what == 0 ? kings : now.worthOf(kings);
    }

    // ---- what is seen

    public int see(int sum) {
        if (!isSum(sum)) {
            return OUTSIDE;
        }
        return now.seenMany >= MOST_SEEN ? FULL : now.addSeen(sum);
    }

    public int forget() {
        return now.clearSeen();
    }

    public int which() {
        int bits = 0;
        for (int kind = 0; kind < kinds.length; kind++) {
            if (now.waysSeenBy(kinds[kind]) > 0) {
                bits |= 1 << kind;
            }
        }
        return bits;
    }

    public int likely() {
        int best = NONE;
        long bestAbove = 0;
        long bestBelow = 1;
        for (int kind = 0; kind < kinds.length; kind++) {
            long above = now.waysSeenBy(kinds[kind]);
            long below = power(kinds[kind].wayMany(), now.seenMany);
            // Neither product overflows: 8 SUMS of HEAVY ones by those of DICE are at most 180 to the 8.
            if (above * bestBelow > bestAbove * below) {
                best = kind;
                bestAbove = above;
                bestBelow = below;
            }
        }
        return best;
    }

    public int halls(int throwMany, int seed, int what) {
        if (throwMany < 1 || throwMany > MOST_HALLS_THROWS || seed < 0 || !isBelow(what, 3)) {
            return OUTSIDE;
        }
        if (!now.hasHall()) {
            return STATE;
        }
        int kings = now.kingsBy(0);
        int gold = now.gold;
        draws.begin(seed);
        for (int thrown = 0; thrown < throwMany && kings != 0; thrown++) {
            int stake = Integer.lowestOneBit(kings);
            int king = kingDice.fall(draws);
            int cousin = cousinDice.fall(draws);
            if (king > cousin) {
                gold += now.worthOf(stake);
            } else if (king < cousin) {
                kings -= stake;
            }
        }
        switch (what) {
            case 0: return Integer.bitCount(kings);
            case 1: return gold;
            default: return draws.seedNow();
        }
    }

    // ---- what is told of all

    public int image() {
        if (!now.hasHall()) {
            return STATE;
        }
        kept.copy(now);
        isKept = true;
        return now.throwMany;
    }

    public int restore() {
        if (!isKept) {
            return STATE;
        }
        now.copy(kept);
        return now.throwMany;
    }

    public int count(int what) {
        switch (what) {
            case 0: return now.thingMany;
            case 1: return Integer.bitCount(now.kingsBy(0));
            case 2: return now.worthOf(now.kingsBy(0));
            case 3: return now.gold;
            case 4: return now.throwMany;
            case 5: return now.wrongMany();
            case 6: return now.seenMany;
            case 7: return page.length;
            case 8: return hallsRead;
            default: return OUTSIDE;
        }
    }

    public long digest() {
        long h = DIGEST_START;
        for (int thing = 0; thing < now.thingMany; thing++) {
            h = digestThing(h, thing);
        }
        if (now.hasHall()) {
            h = digestHall(h);
        }
        h = mix(h, which());
        h = mix(h, likely());
        for (int place = 0; place < page.length; place++) {
            h = mix(h, page.codeAt(place));
        }
        for (int what = 0; what < COUNT_WHATS; what++) {
            h = mix(h, count(what));
        }
        return h;
    }

    private long digestThing(long start, int thing) {
        long h = start;
        for (int what = 0; what < THING_WHATS; what++) {
            h = mix(h, thing(thing, what));
        }
        if (!now.things[thing].isKings) {
            h = mix(h, back(thing, DIGEST_BACK_THROWS, 0));
            h = mix(h, back(thing, DIGEST_BACK_THROWS, 1));
        }
        return h;
    }

    private long digestHall(long start) {
        long h = start;
        for (int who = KING; who <= COUSIN; who++) {
            for (int what = 0; what < DICE_WHATS; what++) {
                h = mix(h, dice(who, what));
            }
        }
        for (int what = 0; what < ODDS_WHATS; what++) {
            h = mix(h, odds(what));
        }
        for (int law = 0; law < LAW_MANY; law++) {
            h = mix(h, laws(law, 0));
            h = mix(h, laws(law, 1));
        }
        return h;
    }

    private static long mix(long h, long number) {
        return 31 * h + number;
    }

    private boolean hasDice(int who) {
        return now.hasHall() && (who == KING || who == COUSIN);
    }

    private Dice diceOf(int who) {
        return who == KING ? kingDice : cousinDice;
    }

    private Dice diceByLetter(int code) {
        int kind = KIND_LETTERS.indexOf((char) code);
        return isBelow(kind, kinds.length) ? kinds[kind] : kinds[DICE];
    }

    private static boolean isOfKind(Dice dice, int kind) {
        switch (kind) {
            case DICE: return true;
            case HEAVY: return dice instanceof Heavy;
            case TWINS: return dice instanceof Twins;
            case LIGHT: return dice instanceof Light;
            case BONE: return dice instanceof Bone;
            default: return false;
        }
    }

    private static boolean isSum(int sum) {
        return sum >= LEAST_SUM && sum <= GREATEST_SUM;
    }

    private static boolean isBelow(int number, int bound) {
        return number >= 0 && number < bound;
    }

    /** Of a fraction in lowest terms: what = 0 above, 1 below. */
    private static long lowestTerm(long above, long below, int what) {
        long divisor = commonDivisor(above, below);
        long term = what == 0 ? above : below;
        return divisor > 0 ? term / divisor : term;
    }

    private static long commonDivisor(long one, long other) {
        long greater = one;
        long less = other;
        for (int step = 0; step < MOST_EUCLID_STEPS && less != 0; step++) {
            long rest = greater % less;
            greater = less;
            less = rest;
        }
        return greater;
    }

    /** Of all ways in which so many throws can fall, those that win a thing back while stakes last. */
    private static long waysBack(Odds odds, int throwMany, int stakes) {
        if (throwMany < 1 || throwMany > MOST_BACK_THROWS || stakes < 1) {
            return 0;
        }
        // Once it is won, the throws that are left may fall in any way.
        return odds.waysTo(KING_ABOVE) * power(odds.total, throwMany - 1)
                + odds.waysTo(COUSIN_ABOVE) * waysBack(odds, throwMany - 1, stakes - 1)
                + odds.waysTo(ALIKE) * waysBack(odds, throwMany - 1, stakes);
    }

    private static long power(long base, int exponent) {
        long result = 1;
        for (int step = 0; step < exponent; step++) {
            result *= base;
        }
        return result;
    }

    /** Letters as they come, and how far they are a hall. */
    private static final class Page {
        private final int[] codes = new int[MOST_LETTERS];
        private int length = 0;

        private boolean isFull() {
            return length >= codes.length;
        }

        private int push(int code) {
            if (!isFull()) {
                codes[length] = code;
                length++;
            }
            return length;
        }

        private int clear() {
            int had = length;
            length = 0;
            return had;
        }

        private int codeAt(int place) {
            return isBelow(place, length) ? codes[place] : 0;
        }

        private int faultPlace() {
            boolean hasSelf = false;
            int end = NONE;
            for (int place = 0; place < length; place++) {
                int code = codeAt(place);
                if (end != NONE ? !fitsBehind(place - end, code) : !fitsThings(place, code, hasSelf)) {
                    return place;
                }
                // No kind of dice has this letter, so it tells SELF wherever it fits.
                if (code == 's') {
                    hasSelf = true;
                }
                if (code == ';') {
                    end = place;
                }
            }
            return length;
        }

        private static boolean fitsThings(int place, int code, boolean hasSelf) {
            int things = place / 3 + 1;
            switch (place % 3) {
                case 0: return SORT_LETTERS.indexOf((char) code) >= 0 && !(code == 's' && hasSelf);
                case 1: return code >= '1' && code <= '9';
                default: return code == ',' && things < MOST_THINGS || code == ';' && things >= LEAST_THINGS;
            }
        }

        private static boolean fitsBehind(int distance, int code) {
            return distance <= 2 && KIND_LETTERS.indexOf((char) code) >= 0;
        }

        private boolean isHall() {
            return codeAt(length - 3) == ';' && faultPlace() == length;
        }

        // What follows is asked of a page that is a hall.

        private int hallThings() {
            return (length - 2) / 3;
        }

        private int hallSort(int thing) {
            return SORT_LETTERS.indexOf((char) codeAt(3 * thing));
        }

        private int hallWorth(int thing) {
            return codeAt(3 * thing + 1) - '0';
        }

        private int kingKindCode() {
            return codeAt(length - 2);
        }

        private int cousinKindCode() {
            return codeAt(length - 1);
        }
    }

    /** Two of a kind that fall each for itself, every one from a least to a greatest number. */
    private static class Dice {
        final int kind;
        final int least;
        final int greatest;

        Dice(int kind, int least, int greatest) {
            this.kind = kind;
            this.least = least;
            this.greatest = greatest;
        }

        final int tell(int what) {
            switch (what) {
                case 0: return kind;
                case 1: return 2 * least;
                case 2: return 2 * greatest;
                default: return wayMany();
            }
        }

        final int faces() {
            return greatest - least + 1;
        }

        int wayMany() {
            return faces() * faces();
        }

        int waysOf(int sum) {
            // A sum of any int may be asked: without this bound the differences could wrap.
            if (!isSum(sum)) {
                return 0;
            }
            int ways = 0;
            for (int first = least; first <= greatest; first++) {
                int second = sum - first;
                if (second >= least && second <= greatest) {
                    ways++;
                }
            }
            return ways;
        }

        int fall(Draws draws) {
            int first = least + draws.next(faces());
            return first + least + draws.next(faces());
        }
    }

    private static class Heavy extends Dice {
        Heavy(int kind, int least) {
            super(kind, least, 6);
        }
    }

    private static final class Bone extends Heavy {
        Bone() {
            super(BONE, 4);
        }
    }

    private static final class Light extends Dice {
        Light() {
            super(LIGHT, 1, 3);
        }
    }

    private static final class Twins extends Dice {
        Twins() {
            super(TWINS, 1, 6);
        }

        int wayMany() {
            return faces();
        }

        int waysOf(int sum) {
            return isSum(sum) && sum % 2 == 0 ? 1 : 0;
        }

        int fall(Draws draws) {
            return 2 * (least + draws.next(faces()));
        }
    }

    /** Numbers that follow from a seed. */
    private static final class Draws {
        private long seed = 0;

        private void begin(int first) {
            seed = first;
        }

        private int next(int many) {
            seed = (1103515245L * seed + 12345L) % (1L << 31);
            return many > 0 ? (int) (seed / 65536 % many) : 0;
        }

        private int seedNow() {
            // It stays below 2 to the 31, so the cast loses nothing.
            return (int) seed;
        }
    }

    /** In how many of all ways two dice fall so that one is above, or both are alike. */
    private static final class Odds {
        private final int[] ways = new int[OUTCOME_MANY];
        private int total = 1;

        private void reckon(Dice kings, Dice cousins) {
            for (int outcome = 0; outcome < ways.length; outcome++) {
                ways[outcome] = 0;
            }
            for (int king = LEAST_SUM; king <= GREATEST_SUM; king++) {
                for (int cousin = LEAST_SUM; cousin <= GREATEST_SUM; cousin++) {
                    ways[outcomeOf(king, cousin)] += kings.waysOf(king) * cousins.waysOf(cousin);
                }
            }
            total = kings.wayMany() * cousins.wayMany();
        }

        private static int outcomeOf(int king, int cousin) {
            if (king == cousin) {
                return ALIKE;
            }
            return king > cousin ? KING_ABOVE : COUSIN_ABOVE;
        }

        private int waysTo(int outcome) {
            return isBelow(outcome, ways.length) ? ways[outcome] : 0;
        }
    }

    /** What is staked: its sort and worth, and what became of it. */
    private static final class Thing {
        private int sort = 0;
        private int worth = 0;
        private boolean isKings = true;
        private int lostBy = NONE;
        private int rightly = NONE;
        private int overs = 0;

        private void begin(int newSort, int newWorth) {
            sort = newSort;
            worth = newWorth;
            isKings = true;
            lostBy = NONE;
            rightly = NONE;
            overs = 0;
        }

        private void copy(Thing other) {
            sort = other.sort;
            worth = other.worth;
            isKings = other.isKings;
            lostBy = other.lostBy;
            rightly = other.rightly;
            overs = other.overs;
        }

        private void lose(int throwNumber, boolean isRight) {
            isKings = false;
            lostBy = throwNumber;
            rightly = isRight ? 1 : 0;
            overs++;
        }

        private void comeBack() {
            isKings = true;
            overs++;
        }

        private boolean isWronglyLost() {
            return !isKings && rightly == 0;
        }

        private boolean isKingsBy(int law) {
            return isKings
                    || (law & LAW_OF_WRONGS) != 0 && isWronglyLost()
                    || (law & LAW_OF_BROTHERS) != 0 && sort == BROTHER;
        }

        private int tell(int what) {
            switch (what) {
                case 0: return sort;
                case 1: return worth;
                case 2: return isKings ? KING : COUSIN;
                case 3: return lostBy;
                case 4: return rightly;
                default: return overs;
            }
        }
    }

    /** All that an image keeps: things, gold, throws and what is seen. */
    private static final class Standing {
        private final Thing[] things;
        private final int[] seen;
        private int thingMany;
        private int gold;
        private int throwMany;
        private int seenMany;

        private Standing() {
            things = new Thing[MOST_THINGS];
            for (int thing = 0; thing < things.length; thing++) {
                things[thing] = new Thing();
            }
            seen = new int[MOST_SEEN];
            thingMany = 0;
            gold = 0;
            throwMany = 0;
            seenMany = 0;
        }

        private void begin(Page page) {
            thingMany = Math.min(page.hallThings(), things.length);
            for (int thing = 0; thing < thingMany; thing++) {
                things[thing].begin(page.hallSort(thing), page.hallWorth(thing));
            }
            gold = 0;
            throwMany = 0;
            seenMany = 0;
        }

        private void copy(Standing other) {
            for (int thing = 0; thing < things.length; thing++) {
                things[thing].copy(other.things[thing]);
            }
            for (int place = 0; place < seen.length; place++) {
                seen[place] = other.seen[place];
            }
            thingMany = other.thingMany;
            gold = other.gold;
            throwMany = other.throwMany;
            seenMany = other.seenMany;
        }

        private boolean hasHall() {
            return thingMany > 0;
        }

        private boolean has(int thing) {
            return isBelow(thing, thingMany);
        }

        private boolean mayStake(int stake, int prize) {
            if (!has(stake) || !things[stake].isKings) {
                return false;
            }
            if (!has(prize)) {
                return prize == NONE;
            }
            return !things[prize].isKings && things[prize].worth <= things[stake].worth;
        }

        /** A throw with a stake and a prize that may be: who wins. */
        private int settle(int stake, int prize, int king, int cousin) {
            if (!mayStake(stake, prize)) {
                return NONE;
            }
            throwMany++;
            if (king == cousin) {
                return NONE;
            }
            if (king < cousin) {
                things[stake].lose(throwMany, isSelfKings());
                return COUSIN;
            }
            if (has(prize)) {
                things[prize].comeBack();
            } else {
                gold += things[stake].worth;
            }
            return KING;
        }

        /** Also where there is no self. */
        private boolean isSelfKings() {
            for (int thing = 0; thing < thingMany; thing++) {
                if (things[thing].sort == SELF) {
                    return things[thing].isKings;
                }
            }
            return true;
        }

        private int stakesFor(int prize) {
            int stakes = 0;
            for (int thing = 0; thing < thingMany; thing++) {
                if (mayStake(thing, prize)) {
                    stakes++;
                }
            }
            return stakes;
        }

        private int kingsBy(int law) {
            int bits = 0;
            for (int thing = 0; thing < thingMany; thing++) {
                if (things[thing].isKingsBy(law)) {
                    bits |= 1 << thing;
                }
            }
            return bits;
        }

        private int worthOf(int bits) {
            int worth = 0;
            for (int thing = 0; thing < thingMany; thing++) {
                if ((bits >> thing & 1) != 0) {
                    worth += things[thing].worth;
                }
            }
            return worth;
        }

        private int wrongMany() {
            int wrongs = 0;
            for (int thing = 0; thing < thingMany; thing++) {
                if (things[thing].isWronglyLost()) {
                    wrongs++;
                }
            }
            return wrongs;
        }

        private int addSeen(int sum) {
            if (isBelow(seenMany, seen.length)) {
                seen[seenMany] = sum;
                seenMany++;
            }
            return seenMany;
        }

        private int clearSeen() {
            int had = seenMany;
            seenMany = 0;
            return had;
        }

        /** In how many ways such dice make just what is seen. */
        private long waysSeenBy(Dice dice) {
            long product = 1;
            for (int place = 0; place < seenMany; place++) {
                product *= dice.waysOf(seen[place]);
            }
            return product;
        }
    }
}
