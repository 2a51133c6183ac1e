import java.util.Arrays;

/**
 * A square in which an organ plays to hearers whom nobody sees. ../shared/DOC.md says, as numbered
 * promises, what each call answers and changes.
 */
public final class UnseenRing {
    public static final int NONE = -1;

    private static final int MOST_SIDE = 5;
    private static final int MOST_CELLS = 25;
    private static final int MOST_FAR = 8;
    private static final int MOST_TUNES = 6;
    private static final int MOST_HEARERS = 6;
    private static final int MOST_DOGS = 4;
    private static final int MOST_COINS = 99;
    private static final int FIRST_COINS = 3;
    private static final int MOST_ODDS = 16;
    private static final int FULL_CUP = 9999;
    private static final int MOST_PLAYS = 20;
    private static final int MOST_GATHERED = 3;
    private static final int MOST_PLACED = 4;
    private static final int MOST_COVERED = 8;
    private static final int MOST_TWOS = 20;
    private static final int MOST_ROUNDS = 8;
    private static final int MOST_TURNS = 4;
    private static final int MOST_SEED = 9999;
    private static final int MOST_SEEDS = 20;
    private static final int MOST_DAYS_BYTES = 300;
    private static final int MOST_MARKS = 3;
    private static final int TRAYS = 4;
    private static final int MOST_SORT = 3;
    private static final int MOST_NUMBERS = 60;

    private static final int FINE = 0;
    private static final int WRONG_NUMBER = 1;
    private static final int TRAY_MISSING = 2;
    private static final int NO_PLACE = 3;
    private static final int TOO_MANY = 4;
    private static final int WRONG_IN_TRAY = 5;
    private static final int NONE_SUCH = 6;
    private static final int CANT_BE = 7;
    private static final int UNLIKE_SORTS = 8;
    private static final int FAULTY = 9;

    private final Tray[] trays = new Tray[TRAYS];
    private final Tokens tokens = new Tokens();
    private final SquareReader squareReader = new SquareReader();
    private final DaysReader daysReader = new DaysReader();
    private final Square[] marked = new Square[MOST_MARKS];
    private final Life life = new Life();
    private final Life trial = new Life();
    private final Rows rows = new Rows();
    private final Placings sets = new Placings();
    private final Covering covering = new Covering();
    private final Knowing knowing = new Knowing();
    private Square now = new Square();
    private Square spare = new Square();
    private Days spareDays = new Days();
    private int marks = 0;
    private int status = FINE;
    private long top = 0;
    private long bottom = 1;

    public UnseenRing() {
        for (int i = 0; i < TRAYS; i++) {
            trays[i] = new Tray();
        }
        for (int i = 0; i < MOST_MARKS; i++) {
            marked[i] = new Square();
        }
    }

    public int status() {
        return status;
    }

    public long top() {
        return top;
    }

    public long bottom() {
        return bottom;
    }

    // ---- TRAYS

    public boolean tray(int tray, int sort, int many) {
        if (!isTray(tray) || !within(sort, 0, MOST_SORT) || !within(many, 0, MOST_NUMBERS)) {
            return settled(WRONG_NUMBER);
        }
        trays[tray].lay(sort, many);
        return settled(FINE);
    }

    public boolean write(int tray, int place, long v) {
        int found = placeStatus(tray, place);
        if (found == FINE) {
            trays[tray].put(place, v);
        }
        return settled(found);
    }

    public long read(int tray, int place) {
        int found = placeStatus(tray, place);
        if (found != FINE) {
            return refused(found);
        }
        status = FINE;
        return trays[tray].numberAt(place);
    }

    public boolean pour(int from, int place, int to, int at, int many) {
        if (!isTray(from) || !isTray(to) || place < 0 || at < 0 || many < 0) {
            return settled(WRONG_NUMBER);
        }
        Tray source = trays[from];
        Tray target = trays[to];
        if (source.isMissing() || target.isMissing()) {
            return settled(TRAY_MISSING);
        }
        if (source.sort != target.sort) {
            return settled(UNLIKE_SORTS);
        }
        // the lengths are subtracted, since a sum of two great numbers would wrap around
        if (place > source.many - many || at > target.many - many) {
            return settled(NO_PLACE);
        }
        System.arraycopy(source.numbers, place, target.numbers, at, many);
        return settled(FINE);
    }

    private static boolean isTray(int tray) {
        return within(tray, 0, TRAYS - 1);
    }

    private int placeStatus(int tray, int place) {
        int found = trayStatus(tray, 0);
        if (found != FINE) {
            return found;
        }
        return within(place, 0, trays[tray].many - 1) ? FINE : NO_PLACE;
    }

    private int trayStatus(int tray, int wanted) {
        if (!isTray(tray)) {
            return WRONG_NUMBER;
        }
        if (trays[tray].isMissing()) {
            return TRAY_MISSING;
        }
        return wanted <= trays[tray].many ? FINE : NO_PLACE;
    }

    // ---- texts

    public int feed(int a, int b, int c, int d, int e) {
        if (!tokens.hasRoom()) {
            return NONE;
        }
        tokens.append(a);
        tokens.append(b);
        tokens.append(c);
        tokens.append(d);
        tokens.append(e);
        return tokens.length;
    }

    public int square(int n) {
        if (!within(n, 0, tokens.length)) {
            return refused(WRONG_NUMBER);
        }
        boolean taken = squareReader.readText(tokens, n, spare);
        tokens.clear();
        if (!taken) {
            return refused(FAULTY);
        }
        Square old = now;
        now = spare;
        spare = old;
        return answered(now.hearers);
    }

    public int days(int n) {
        if (!within(n, 0, tokens.length) || n > MOST_DAYS_BYTES) {
            return refused(WRONG_NUMBER);
        }
        boolean taken = daysReader.readText(tokens, n, now, spareDays);
        tokens.clear();
        if (!taken) {
            return refused(FAULTY);
        }
        Days old = now.days;
        now.days = spareDays;
        spareDays = old;
        return answered(now.days.steps);
    }

    public int fault(int what) {
        if (what == 0) {
            return tokens.fault;
        }
        return what == 1 ? tokens.faultPlace : NONE;
    }

    public int told(int what) {
        if (!within(what, 0, 10)) {
            return refused(WRONG_NUMBER);
        }
        return answered(now.toldOf(what));
    }

    public int hearer(int hearer, int what) {
        if (!now.hasHearer(hearer) || !within(what, 0, 4)) {
            return refused(WRONG_NUMBER);
        }
        return answered(now.toldOfHearer(hearer, what));
    }

    public int dog(int dog, int what) {
        if (!now.hasDog(dog) || !within(what, 0, 1)) {
            return refused(WRONG_NUMBER);
        }
        if (what == 0) {
            return answered(now.dogAt[dog]);
        }
        return answered(now.isUp(dog) ? 1 : 0);
    }

    public int cell(int cell, int what) {
        if (!now.hasCell(cell) || !within(what, 0, 2)) {
            return refused(WRONG_NUMBER);
        }
        if (what == 0) {
            return answered(now.hearersNear(cell, 0));
        }
        return answered(what == 1 ? now.far(cell, now.organ) : now.dogsUpFrom(cell));
    }

    public int likers(int tune) {
        if (!now.hasTune(tune)) {
            return refused(WRONG_NUMBER);
        }
        return answered(now.likersOf(tune));
    }

    // ---- what is done

    public int play(int tune) {
        if (!now.hasTune(tune)) {
            return refused(WRONG_NUMBER);
        }
        return answeredIfItCanBe(now.playTune(tune));
    }

    public int grind(int cell) {
        if (!now.hasCell(cell)) {
            return refused(WRONG_NUMBER);
        }
        return answeredIfItCanBe(now.moveOrgan(cell));
    }

    public int throwAt(int cell) {
        if (!now.hasCell(cell)) {
            return refused(WRONG_NUMBER);
        }
        return answeredIfItCanBe(now.flour(cell));
    }

    public int brush() {
        return answeredIfItCanBe(now.brushOff());
    }

    public int send(int hearer, int cell) {
        if (!now.hasHearer(hearer) || !now.hasCell(cell)) {
            return refused(WRONG_NUMBER);
        }
        return answeredIfItCanBe(now.moveHearer(hearer, cell));
    }

    public int give(int hearer, int coins) {
        if (!now.hasHearer(hearer) || !within(coins, 0, MOST_COINS)) {
            return refused(WRONG_NUMBER);
        }
        int had = now.coins[hearer];
        now.coins[hearer] = coins;
        return answered(had);
    }

    public boolean teach(int hearer, int tune, boolean is) {
        if (!now.hasHearer(hearer) || !now.hasTune(tune)) {
            return settled(WRONG_NUMBER);
        }
        if (now.doesLike(hearer, tune) == is) {
            return settled(CANT_BE);
        }
        now.likes[hearer] ^= 1 << tune;
        return settled(FINE);
    }

    public int come(int cell) {
        if (!now.hasCell(cell)) {
            return refused(WRONG_NUMBER);
        }
        if (now.hearers >= MOST_HEARERS) {
            return refused(TOO_MANY);
        }
        now.addHearer(cell, FIRST_COINS, 0);
        return answered(now.hearers - 1);
    }

    public int empty() {
        return answeredIfItCanBe(now.emptyCup());
    }

    public boolean rule(int odds) {
        if (!within(odds, 0, MOST_ODDS)) {
            return settled(WRONG_NUMBER);
        }
        now.odds = odds;
        return settled(FINE);
    }

    // ---- what comes

    public int takings(int tune, int n) {
        return pitch(now.organ, tune, n);
    }

    public int pitch(int cell, int tune, int n) {
        if (!now.hasCell(cell) || !now.hasTune(tune) || !within(n, 0, MOST_PLAYS)) {
            return refused(WRONG_NUMBER);
        }
        return answered(now.coinsFrom(cell, tune, n));
    }

    public int bestPitch(int tune, int n) {
        if (!now.hasTune(tune) || !within(n, 0, MOST_PLAYS)) {
            return refused(WRONG_NUMBER);
        }
        int best = 0;
        int most = now.coinsFrom(0, tune, n);
        for (int cell = 1; cell < now.cells(); cell++) {
            int coins = now.coinsFrom(cell, tune, n);
            if (coins > most) {
                best = cell;
                most = coins;
            }
        }
        return answered(best);
    }

    public int soon(int hearer) {
        if (!now.hasHearer(hearer)) {
            return refused(WRONG_NUMBER);
        }
        int far = now.farFromOrgan(hearer);
        if (far > 0 && now.likes[hearer] == 0) {
            return refused(NONE_SUCH);
        }
        return answered(far);
    }

    public int gather(int hearers) {
        if (!canGather(hearers)) {
            return refused(WRONG_NUMBER);
        }
        return answeredIfThereIs(rows.fewestTunes(now, hearers));
    }

    public int gatherAt(int hearers, int k) {
        if (!canGather(hearers) || k < 0) {
            return refused(WRONG_NUMBER);
        }
        int many = rows.fewestTunes(now, hearers);
        return answeredIfThereIs(k < many ? rows.tuneOfRow(k) : NONE);
    }

    private boolean canGather(int hearers) {
        return isSet(hearers, now.hearers) && within(Integer.bitCount(hearers), 1, MOST_GATHERED);
    }

    // ---- where they are

    public int explain(int dogs) {
        if (!isSet(dogs, now.dogs)) {
            return refused(WRONG_NUMBER);
        }
        sets.look(now);
        return answeredIfThereIs(sets.fewestCells(dogs));
    }

    public int placings(int dogs, int k) {
        if (!isPlacing(dogs, k)) {
            return refused(WRONG_NUMBER);
        }
        sets.look(now);
        return answered(sets.countWithout(dogs, k, 0));
    }

    public boolean oddsThat(int dogs, int k, int cell) {
        if (!isPlacing(dogs, k) || !now.hasCell(cell)) {
            return settled(WRONG_NUMBER);
        }
        sets.look(now);
        int all = sets.countWithout(dogs, k, 0);
        if (all == 0) {
            return settled(NONE_SUCH);
        }
        tellFraction(all - sets.countWithout(dogs, k, 1 << cell), all);
        return settled(FINE);
    }

    public int aim(int dogs, int k) {
        if (!isPlacing(dogs, k)) {
            return refused(WRONG_NUMBER);
        }
        sets.look(now);
        return answeredIfThereIs(sets.cellThatHitsMost(now, dogs, k));
    }

    public int cover(int tray, int n) {
        int found = coverStatus(tray, n);
        return found == FINE ? answered(covering.fewestThrows()) : refused(found);
    }

    public int coverAt(int tray, int n, int k) {
        int found = k < 0 ? WRONG_NUMBER : coverStatus(tray, n);
        if (found != FINE) {
            return refused(found);
        }
        return answeredIfThereIs(k < covering.fewestThrows() ? covering.cellOfRow(k) : NONE);
    }

    private boolean isPlacing(int dogs, int k) {
        return isSet(dogs, now.dogs) && within(k, 0, MOST_PLACED);
    }

    private int coverStatus(int tray, int n) {
        if (!within(n, 0, MOST_COVERED)) {
            return WRONG_NUMBER;
        }
        int found = trayStatus(tray, n);
        if (found != FINE) {
            return found;
        }
        return covering.solve(now, trays[tray], n) ? FINE : WRONG_IN_TRAY;
    }

    // ---- what one likes, knows

    public int fits(int hearer, int tray, int n) {
        int found = fitStatus(hearer, tray, n);
        if (found != FINE) {
            return refused(found);
        }
        int many = 0;
        for (int likes = 0; likes < 1 << now.tunes; likes++) {
            if (doesFit(likes, hearer, trays[tray], n)) {
                many++;
            }
        }
        return answered(many);
    }

    public int sure(int hearer, int tray, int n) {
        int found = fitStatus(hearer, tray, n);
        if (found != FINE) {
            return refused(found);
        }
        // NONE has every bit, so it says "no set yet" and stands for all TUNES as well
        int inAll = NONE;
        for (int likes = 0; likes < 1 << now.tunes; likes++) {
            if (doesFit(likes, hearer, trays[tray], n)) {
                inAll &= likes;
            }
        }
        return answeredIfThereIs(inAll);
    }

    private int fitStatus(int hearer, int tray, int n) {
        if (!now.hasHearer(hearer) || !within(n, 0, MOST_TWOS)) {
            return WRONG_NUMBER;
        }
        int found = trayStatus(tray, 2 * n);
        if (found != FINE) {
            return found;
        }
        for (int i = 0; i < n; i++) {
            long tune = trays[tray].numberAt(2 * i);
            long far = trays[tray].numberAt(2 * i + 1);
            if (tune < 0 || tune >= now.tunes || far < 0 || far > MOST_FAR) {
                return WRONG_IN_TRAY;
            }
        }
        return FINE;
    }

    private boolean doesFit(int likes, int hearer, Tray tray, int n) {
        int far = now.farFromOrgan(hearer);
        for (int i = 0; i < n; i++) {
            int tune = (int) tray.numberAt(2 * i);
            if (far > 0 && (likes >> tune & 1) == 1) {
                far--;
            }
            if (far != tray.numberAt(2 * i + 1)) {
                return false;
            }
        }
        return true;
    }

    public int rounds(int hearers, int sight) {
        if (!isKnowing(hearers, sight)) {
            return refused(WRONG_NUMBER);
        }
        return answeredIfThereIs(knowing.firstRound(now, hearers, sight));
    }

    public int knowers(int hearers, int sight, int round) {
        if (!isKnowing(hearers, sight) || !within(round, 1, MOST_ROUNDS)) {
            return refused(WRONG_NUMBER);
        }
        return answered(knowing.knowersOf(now, hearers, sight, round));
    }

    private boolean isKnowing(int hearers, int sight) {
        return isSet(hearers, now.hearers) && hearers != 0 && within(sight, 0, MOST_FAR);
    }

    // ---- games, odds

    public int game(int n) {
        if (!within(n, 0, MOST_TURNS)) {
            return refused(WRONG_NUMBER);
        }
        return answered(rows.coinsOfGame(now, n));
    }

    public int moveOf(int n) {
        if (!within(n, 1, MOST_TURNS)) {
            return refused(WRONG_NUMBER);
        }
        return answeredIfThereIs(rows.firstTuneOfGame(now, n));
    }

    public boolean crowd(int k) {
        if (!within(k, 0, MOST_HEARERS)) {
            return settled(WRONG_NUMBER);
        }
        int all = now.hearers;
        long ways = 0;
        for (int come = k; come <= all; come++) {
            ways += choose(all, come) * power(now.odds, come) * power(MOST_ODDS - now.odds, all - come);
        }
        tellFraction(ways, power(MOST_ODDS, all));
        return settled(FINE);
    }

    public boolean share(int hearer) {
        if (!now.hasHearer(hearer)) {
            return settled(WRONG_NUMBER);
        }
        int all = 0;
        for (int i = 0; i < now.hearers; i++) {
            all += now.coins[i];
        }
        if (all == 0) {
            return settled(NONE_SUCH);
        }
        tellFraction(now.coins[hearer], all);
        return settled(FINE);
    }

    public int copyCells(int tray) {
        int found = trayStatus(tray, now.hearers);
        if (found != FINE) {
            return refused(found);
        }
        for (int i = 0; i < now.hearers; i++) {
            trays[tray].put(i, now.at[i]);
        }
        return answered(now.hearers);
    }

    // ---- DAYS

    public int live(int seed) {
        if (!within(seed, 0, MOST_SEED)) {
            return refused(WRONG_NUMBER);
        }
        if (!now.days.there) {
            return refused(NONE_SUCH);
        }
        life.run(now, seed);
        return answered(life.steps);
    }

    public int lived(int what) {
        if (!within(what, 0, 4)) {
            return refused(WRONG_NUMBER);
        }
        return life.hasRun ? answered(life.count(what)) : refused(NONE_SUCH);
    }

    public boolean mean(int seed, int many) {
        if (!within(many, 1, MOST_SEEDS) || !within(seed, 0, MOST_SEED - many + 1)) {
            return settled(WRONG_NUMBER);
        }
        if (!now.days.there) {
            return settled(NONE_SUCH);
        }
        long all = 0;
        for (int i = 0; i < many; i++) {
            spare.copyFrom(now);
            trial.run(spare, seed + i);
            all += spare.cup;
        }
        tellFraction(all, many);
        return settled(FINE);
    }

    // ---- MARKS

    public int mark() {
        if (marks >= MOST_MARKS) {
            return refused(TOO_MANY);
        }
        marked[marks].copyFrom(now);
        marks++;
        return answered(marks);
    }

    public int undo() {
        if (marks <= 0) {
            return refused(NONE_SUCH);
        }
        marks--;
        now.copyFrom(marked[marks]);
        return answered(marks);
    }

    // ---- what all calls use

    private boolean settled(int found) {
        status = found;
        return found == FINE;
    }

    private int refused(int found) {
        status = found;
        return NONE;
    }

    private int answered(int answer) {
        status = FINE;
        return answer;
    }

    private int answeredIfItCanBe(int answer) {
        return answer == NONE ? refused(CANT_BE) : answered(answer);
    }

    private int answeredIfThereIs(int answer) {
        return answer == NONE ? refused(NONE_SUCH) : answered(answer);
    }

    private void tellFraction(long above, long below) {
        long common = commonDivisor(above, below);
        if (common > 0) {
            top = above / common;
            bottom = below / common;
        }
    }

    private static long commonDivisor(long a, long b) {
        // Euclid's rows are far shorter than 200 for every long
        for (int i = 0; i < 200 && b != 0; i++) {
            long rest = a % b;
            a = b;
            b = rest;
        }
        return a;
    }

    private static int choose(int of, int many) {
        if (many < 0 || many > of) {
            return 0;
        }
        int ways = 1;
        for (int i = 0; i < many; i++) {
            ways = ways * (of - i) / (i + 1);
        }
        return ways;
    }

    private static long power(int base, int times) {
        long product = 1;
        for (int i = 0; i < times; i++) {
            product *= base;
        }
        return product;
    }

    private static boolean within(int number, int least, int most) {
        return number >= least && number <= most;
    }

    private static boolean isSet(int set, int of) {
        return within(set, 0, (1 << of) - 1);
    }

    /** A row of numbers, all held as longs that are cut to the sort when they come. */
    private static final class Tray {
        final long[] numbers = new long[MOST_NUMBERS];
        int sort = NONE;
        int many = 0;

        boolean isMissing() {
            return sort == NONE;
        }

        void lay(int newSort, int newMany) {
            sort = newSort;
            many = newMany;
            Arrays.fill(numbers, 0L);
        }

        void put(int place, long number) {
            if (within(place, 0, MOST_NUMBERS - 1)) {
                numbers[place] = cut(number);
            }
        }

        long numberAt(int place) {
            return within(place, 0, MOST_NUMBERS - 1) ? numbers[place] : NONE;
        }

        private long cut(long number) {
            switch (sort) {
                case 0:
                    return (byte) number;
                case 1:
                    return (short) number;
                case 2:
                    return (int) number;
                default:
                    return number;
            }
        }
    }

    /** The tape, and the text at its beginning as a row of tokens; it keeps the first fault. */
    private static final class Tokens {
        static final int MOST_BYTES = 900;
        static final int BYTES_FED = 20;
        static final int MOST_DIGITS = 4;
        static final int MOST_LETTERS = 8;

        static final int END = 0;
        static final int NAME = 1;
        static final int LONG_WORD = 2;
        static final int RESERVED_WORD = 3;
        static final int NUMBER = 4;
        static final int SIGN = 5;
        static final int WRONG = 6;

        static final int NO_TOKEN = 1;
        static final int CANT_STAND = 2;
        static final int NAME_FAULT = 3;
        static final int NUMBER_FAULT = 4;
        static final int TWICE = 5;
        static final int ONE_TOO_MANY = 6;
        static final int TOO_DEEP = 7;

        static final int W_SQUARE = 0;
        static final int W_BY = 1;
        static final int W_ODDS = 2;
        static final int W_ORGAN = 3;
        static final int W_TUNE = 4;
        static final int W_HEARER = 5;
        static final int W_AT = 6;
        static final int W_COINS = 7;
        static final int W_LIKES = 8;
        static final int W_DOG = 9;
        static final int W_PLAY = 10;
        static final int W_GRIND = 11;
        static final int W_THROW = 12;
        static final int W_BRUSH = 13;
        static final int W_SEND = 14;
        static final int W_EMPTY = 15;
        static final int W_ANY = 16;
        static final int W_WHEN = 17;
        static final int W_UP = 18;
        static final int W_SEEN = 19;
        static final int W_CUP = 20;
        static final int W_FAR = 21;
        static final int W_LOOP = 22;
        static final int W_END = 23;
        static final int W_STOP = 24;
        static final int RESERVED = 25;
        /** In the order of the numbers above. */
        static final String RESERVED_WORDS =
                "square by odds organ tune hearer at coins likes dog play grind throw brush send empty any when up seen cup far loop end stop ";

        private final byte[] bytes = new byte[MOST_BYTES];
        private final long[] reserved = new long[RESERVED];
        private final int[] kinds = new int[MOST_BYTES + 1];
        private final int[] places = new int[MOST_BYTES + 1];
        /** Of a NAME its letters, packed; of a reserved word and of a NUMBER that; of a SIGN its byte. */
        private final long[] values = new long[MOST_BYTES + 1];
        private int count = 0;
        private int current = 0;
        int length = 0;
        int kind = END;
        /** The reserved word that stands here, or NONE. */
        int word = NONE;
        int fault = NONE;
        int faultPlace = NONE;

        Tokens() {
            int index = 0;
            long packed = 0;
            for (int i = 0; i < RESERVED_WORDS.length(); i++) {
                char letter = RESERVED_WORDS.charAt(i);
                if (letter != ' ') {
                    packed = withLetter(packed, letter);
                } else if (index < RESERVED) {
                    reserved[index] = packed;
                    index++;
                    packed = 0;
                }
            }
        }

        boolean hasRoom() {
            return length <= MOST_BYTES - BYTES_FED;
        }

        void append(int four) {
            for (int shift = 24; shift >= 0 && length < MOST_BYTES; shift -= 8) {
                bytes[length] = (byte) (four >> shift);
                length++;
            }
        }

        void clear() {
            length = 0;
        }

        void begin(int n) {
            scanAll(Math.min(n, length));
            fault = 0;
            faultPlace = NONE;
            current = NONE;
            advance();
        }

        /** Keeps the fault of this token; what begins no token is refused as such first. */
        boolean refuse(int faultKind) {
            fault = kind == WRONG ? NO_TOKEN : faultKind;
            faultPlace = places[current];
            return false;
        }

        /** The last token is the text's end, and stays. */
        void advance() {
            if (current < count - 1) {
                current++;
            }
            kind = kinds[current];
            word = kind == RESERVED_WORD ? (int) values[current] : NONE;
        }

        boolean takeWord(int wanted) {
            if (word != wanted) {
                return refuse(CANT_STAND);
            }
            advance();
            return true;
        }

        boolean takeSemicolon() {
            if (kind != SIGN || values[current] != ';') {
                return refuse(CANT_STAND);
            }
            advance();
            return true;
        }

        /** The sign, or NONE with a fault. */
        int takeCompares() {
            if (kind != SIGN || values[current] == ';') {
                refuse(CANT_STAND);
                return NONE;
            }
            int taken = (int) values[current];
            advance();
            return taken;
        }

        /** The number, or NONE with a fault. */
        int takeNumber(int least, int most) {
            if (kind != NUMBER) {
                refuse(CANT_STAND);
                return NONE;
            }
            int taken = (int) values[current];
            if (!within(taken, least, most)) {
                refuse(NUMBER_FAULT);
                return NONE;
            }
            advance();
            return taken;
        }

        /** The letters of the NAME that stands here, packed; 0 with a fault if none does. */
        long nameHere() {
            if (kind != NAME) {
                refuse(CANT_STAND);
                return 0;
            }
            return values[current];
        }

        private void scanAll(int end) {
            count = 0;
            int next = 0;
            for (int i = 0; i < MOST_BYTES && next < end; i++) {
                int first = bytes[next] & 255;
                if (isLetter(first)) {
                    next = scanWord(next, end);
                } else if (isDigit(first)) {
                    next = scanNumber(next, end);
                } else {
                    scanSign(next, first);
                    next++;
                }
            }
            add(END, end, 0);
        }

        private int scanWord(int from, int end) {
            long packed = 0;
            int next = from;
            for (int i = from; i < end && isLetter(bytes[i] & 255); i++) {
                packed = withLetter(packed, bytes[i] & 255);
                next = i + 1;
            }
            // a longer word wraps around in the packing, and no reserved word is as long
            if (next - from > MOST_LETTERS) {
                add(LONG_WORD, from, 0);
                return next;
            }
            int found = reservedWord(packed);
            if (found == NONE) {
                add(NAME, from, packed);
            } else {
                add(RESERVED_WORD, from, found);
            }
            return next;
        }

        private int reservedWord(long packed) {
            for (int i = 0; i < RESERVED; i++) {
                if (reserved[i] == packed) {
                    return i;
                }
            }
            return NONE;
        }

        private int scanNumber(int from, int end) {
            int number = 0;
            int next = from;
            for (int i = from; i < end && isDigit(bytes[i] & 255); i++) {
                number = number * 10 + ((bytes[i] & 255) - '0');
                next = i + 1;
            }
            add(next - from <= MOST_DIGITS ? NUMBER : WRONG, from, number);
            return next;
        }

        private void scanSign(int at, int sign) {
            if (sign == ';' || sign == '<' || sign == '>' || sign == '=') {
                add(SIGN, at, sign);
            } else if (sign != ' ' && sign != '\n') {
                add(WRONG, at, sign);
            }
        }

        private void add(int itsKind, int itsPlace, long itsValue) {
            if (count <= MOST_BYTES) {
                kinds[count] = itsKind;
                places[count] = itsPlace;
                values[count] = itsValue;
                count++;
            }
        }

        private static long withLetter(long packed, int letter) {
            return packed * 32 + (letter - 'a' + 1);
        }

        private static boolean isLetter(int sign) {
            return sign >= 'a' && sign <= 'z';
        }

        private static boolean isDigit(int sign) {
            return sign >= '0' && sign <= '9';
        }
    }

    /** Reads the text of a SQUARE. */
    private static final class SquareReader {
        private boolean sizeTold = false;
        private boolean oddsTold = false;
        private boolean organTold = false;

        boolean readText(Tokens tokens, int n, Square into) {
            into.reset();
            sizeTold = false;
            oddsTold = false;
            organTold = false;
            tokens.begin(n);
            for (int i = 0; i < Tokens.MOST_BYTES && tokens.kind != Tokens.END; i++) {
                if (!readPart(tokens, into)) {
                    return false;
                }
            }
            return true;
        }

        private boolean readPart(Tokens tokens, Square into) {
            switch (tokens.word) {
                case Tokens.W_SQUARE:
                    return readSize(tokens, into);
                case Tokens.W_ODDS:
                    return readOdds(tokens, into);
                case Tokens.W_ORGAN:
                    return readOrgan(tokens, into);
                case Tokens.W_TUNE:
                    return readTune(tokens, into);
                case Tokens.W_HEARER:
                    return readHearer(tokens, into);
                case Tokens.W_DOG:
                    return readDog(tokens, into);
                default:
                    return tokens.refuse(Tokens.CANT_STAND);
            }
        }

        private boolean readSize(Tokens tokens, Square into) {
            if (sizeTold || organTold || into.hearers > 0 || into.dogs > 0) {
                return tokens.refuse(Tokens.TWICE);
            }
            sizeTold = true;
            tokens.advance();
            int wide = tokens.takeNumber(1, MOST_SIDE);
            if (wide == NONE || !tokens.takeWord(Tokens.W_BY)) {
                return false;
            }
            int high = tokens.takeNumber(1, MOST_SIDE);
            if (high == NONE) {
                return false;
            }
            into.wide = wide;
            into.high = high;
            return tokens.takeSemicolon();
        }

        private boolean readOdds(Tokens tokens, Square into) {
            if (oddsTold) {
                return tokens.refuse(Tokens.TWICE);
            }
            oddsTold = true;
            tokens.advance();
            into.odds = tokens.takeNumber(0, MOST_ODDS);
            return into.odds != NONE && tokens.takeSemicolon();
        }

        private boolean readOrgan(Tokens tokens, Square into) {
            if (organTold) {
                return tokens.refuse(Tokens.TWICE);
            }
            organTold = true;
            tokens.advance();
            into.organ = tokens.takeNumber(0, into.cells() - 1);
            return into.organ != NONE && tokens.takeSemicolon();
        }

        private boolean readTune(Tokens tokens, Square into) {
            if (into.tunes >= MOST_TUNES) {
                return tokens.refuse(Tokens.ONE_TOO_MANY);
            }
            tokens.advance();
            long name = tokens.nameHere();
            if (name == 0) {
                return false;
            }
            if (into.tuneNamed(name) != NONE) {
                return tokens.refuse(Tokens.NAME_FAULT);
            }
            into.names[into.tunes] = name;
            into.tunes++;
            tokens.advance();
            return tokens.takeSemicolon();
        }

        private boolean readHearer(Tokens tokens, Square into) {
            if (into.hearers >= MOST_HEARERS) {
                return tokens.refuse(Tokens.ONE_TOO_MANY);
            }
            tokens.advance();
            if (!tokens.takeWord(Tokens.W_AT)) {
                return false;
            }
            int cell = tokens.takeNumber(0, into.cells() - 1);
            if (cell == NONE) {
                return false;
            }
            int coins = FIRST_COINS;
            if (tokens.word == Tokens.W_COINS) {
                tokens.advance();
                coins = tokens.takeNumber(0, MOST_COINS);
            }
            if (coins == NONE) {
                return false;
            }
            int likes = tokens.word == Tokens.W_LIKES ? readLikes(tokens, into) : 0;
            if (likes == NONE) {
                return false;
            }
            into.addHearer(cell, coins, likes);
            return tokens.takeSemicolon();
        }

        /** The set of TUNES, or NONE with a fault. */
        private int readLikes(Tokens tokens, Square into) {
            tokens.advance();
            int likes = 0;
            for (int i = 0; i <= MOST_TUNES && tokens.kind == Tokens.NAME; i++) {
                int tune = into.tuneNamed(tokens.nameHere());
                if (tune == NONE || (likes >> tune & 1) == 1) {
                    tokens.refuse(tune == NONE ? Tokens.NAME_FAULT : Tokens.TWICE);
                    return NONE;
                }
                likes |= 1 << tune;
                tokens.advance();
            }
            return likes;
        }

        private boolean readDog(Tokens tokens, Square into) {
            if (into.dogs >= MOST_DOGS) {
                return tokens.refuse(Tokens.ONE_TOO_MANY);
            }
            tokens.advance();
            if (!tokens.takeWord(Tokens.W_AT)) {
                return false;
            }
            int cell = tokens.takeNumber(0, into.cells() - 1);
            if (cell == NONE) {
                return false;
            }
            into.dogAt[into.dogs] = cell;
            into.dogs++;
            return tokens.takeSemicolon();
        }
    }

    /** Reads the text of DAYS for a SQUARE. */
    private static final class DaysReader {
        private static final int MOST_DEEP = 3;

        private final int[] open = new int[MOST_DEEP];
        private int deep = 0;

        boolean readText(Tokens tokens, int n, Square square, Days into) {
            into.clear();
            deep = 0;
            tokens.begin(n);
            for (int i = 0; i < MOST_DAYS_BYTES && tokens.kind != Tokens.END; i++) {
                if (!readStep(tokens, square, into)) {
                    return false;
                }
            }
            if (deep > 0) {
                return tokens.refuse(Tokens.CANT_STAND);
            }
            into.there = true;
            return true;
        }

        private boolean readStep(Tokens tokens, Square square, Days into) {
            int word = tokens.word;
            if (word == Tokens.W_END) {
                return readEnd(tokens, into);
            }
            boolean isBlock = word == Tokens.W_WHEN || word == Tokens.W_LOOP;
            if (!isBlock && word != Tokens.W_STOP && !within(word, Tokens.W_PLAY, Tokens.W_ANY)) {
                return tokens.refuse(Tokens.CANT_STAND);
            }
            if (into.steps >= Days.MOST_STEPS) {
                return tokens.refuse(Tokens.ONE_TOO_MANY);
            }
            if (isBlock && deep >= MOST_DEEP) {
                return tokens.refuse(Tokens.TOO_DEEP);
            }
            tokens.advance();
            into.add(word);
            into.steps++;
            if (isBlock) {
                open[deep] = into.size - 1;
                deep++;
            }
            boolean isRead = word == Tokens.W_WHEN
                    ? readTest(tokens, square, into)
                    : readRest(word, tokens, square, into);
            return isRead && tokens.takeSemicolon();
        }

        private boolean readEnd(Tokens tokens, Days into) {
            if (deep <= 0) {
                return tokens.refuse(Tokens.CANT_STAND);
            }
            tokens.advance();
            deep--;
            into.add(Tokens.W_END);
            into.join(open[deep], into.size - 1);
            return tokens.takeSemicolon();
        }

        private boolean readRest(int word, Tokens tokens, Square square, Days into) {
            switch (word) {
                case Tokens.W_PLAY:
                    return readTune(tokens, square, into);
                case Tokens.W_GRIND:
                case Tokens.W_THROW:
                    return readFirst(tokens, 0, square.cells() - 1, into);
                case Tokens.W_SEND:
                    return readFirst(tokens, 0, square.hearers - 1, into)
                            && readSecond(tokens, 0, square.cells() - 1, into);
                case Tokens.W_LOOP:
                    return readFirst(tokens, 1, Days.MOST_LOOPS, into);
                default:
                    return true;
            }
        }

        private boolean readTune(Tokens tokens, Square square, Days into) {
            long name = tokens.nameHere();
            if (name == 0) {
                return false;
            }
            int tune = square.tuneNamed(name);
            if (tune == NONE) {
                return tokens.refuse(Tokens.NAME_FAULT);
            }
            into.first[into.size - 1] = tune;
            tokens.advance();
            return true;
        }

        private boolean readTest(Tokens tokens, Square square, Days into) {
            int test = tokens.word;
            if (!within(test, Tokens.W_UP, Tokens.W_FAR)) {
                return tokens.refuse(Tokens.CANT_STAND);
            }
            tokens.advance();
            // a when is kept by the word of its test, which begins no STEP
            into.word[into.size - 1] = test;
            switch (test) {
                case Tokens.W_UP:
                    return readFirst(tokens, 0, square.dogs - 1, into);
                case Tokens.W_SEEN:
                    return readFirst(tokens, 0, square.hearers - 1, into);
                case Tokens.W_CUP:
                    return readCompares(tokens, into) && readSecond(tokens, 0, FULL_CUP, into);
                default:
                    return readFirst(tokens, 0, square.hearers - 1, into)
                            && readCompares(tokens, into)
                            && readSecond(tokens, 0, MOST_FAR, into);
            }
        }

        private boolean readFirst(Tokens tokens, int least, int most, Days into) {
            int number = tokens.takeNumber(least, most);
            into.first[into.size - 1] = number;
            return number != NONE;
        }

        private boolean readSecond(Tokens tokens, int least, int most, Days into) {
            int number = tokens.takeNumber(least, most);
            into.second[into.size - 1] = number;
            return number != NONE;
        }

        private boolean readCompares(Tokens tokens, Days into) {
            int sign = tokens.takeCompares();
            into.sign[into.size - 1] = sign;
            return sign != NONE;
        }
    }

    /** The SQUARE with all that became of it, and the DAYS: what a MARK keeps. */
    private static final class Square {
        private static final int FIRST_SIDE = 4;
        private static final int FIRST_ODDS = 8;

        final long[] names = new long[MOST_TUNES];
        final int[] at = new int[MOST_HEARERS];
        final int[] coins = new int[MOST_HEARERS];
        final int[] likes = new int[MOST_HEARERS];
        final int[] dogAt = new int[MOST_DOGS];
        Days days = new Days();
        int wide = FIRST_SIDE;
        int high = FIRST_SIDE;
        int odds = FIRST_ODDS;
        int organ = 0;
        int tunes = 0;
        int hearers = 0;
        int dogs = 0;
        int cup = 0;
        int played = 0;
        int seen = 0;

        void reset() {
            wide = FIRST_SIDE;
            high = FIRST_SIDE;
            odds = FIRST_ODDS;
            organ = 0;
            tunes = 0;
            hearers = 0;
            dogs = 0;
            cup = 0;
            played = 0;
            seen = 0;
            days.clear();
        }

        void copyFrom(Square other) {
            System.arraycopy(other.names, 0, names, 0, MOST_TUNES);
            System.arraycopy(other.at, 0, at, 0, MOST_HEARERS);
            System.arraycopy(other.coins, 0, coins, 0, MOST_HEARERS);
            System.arraycopy(other.likes, 0, likes, 0, MOST_HEARERS);
            System.arraycopy(other.dogAt, 0, dogAt, 0, MOST_DOGS);
            days.copyFrom(other.days);
            wide = other.wide;
            high = other.high;
            odds = other.odds;
            organ = other.organ;
            tunes = other.tunes;
            hearers = other.hearers;
            dogs = other.dogs;
            cup = other.cup;
            played = other.played;
            seen = other.seen;
        }

        int cells() {
            return wide * high;
        }

        boolean hasCell(int cell) {
            return within(cell, 0, cells() - 1);
        }

        boolean hasTune(int tune) {
            return within(tune, 0, tunes - 1);
        }

        boolean hasHearer(int hearer) {
            return within(hearer, 0, hearers - 1);
        }

        boolean hasDog(int dog) {
            return within(dog, 0, dogs - 1);
        }

        int tuneNamed(long name) {
            for (int tune = 0; tune < tunes; tune++) {
                if (names[tune] == name) {
                    return tune;
                }
            }
            return NONE;
        }

        void addHearer(int cell, int itsCoins, int itsLikes) {
            if (hearers < MOST_HEARERS) {
                at[hearers] = cell;
                coins[hearers] = itsCoins;
                likes[hearers] = itsLikes;
                hearers++;
            }
        }

        int toldOf(int what) {
            switch (what) {
                case 0:
                    return wide;
                case 1:
                    return high;
                case 2:
                    return tunes;
                case 3:
                    return hearers;
                case 4:
                    return dogs;
                case 5:
                    return odds;
                case 6:
                    return organ;
                case 7:
                    return cup;
                case 8:
                    return played;
                case 9:
                    return seen;
                default:
                    return dogsUp();
            }
        }

        int toldOfHearer(int hearer, int what) {
            switch (what) {
                case 0:
                    return at[hearer];
                case 1:
                    return likes[hearer];
                case 2:
                    return coins[hearer];
                case 3:
                    return farFromOrgan(hearer);
                default:
                    return isSeen(hearer) ? 1 : 0;
            }
        }

        int far(int a, int b) {
            if (wide <= 0) {
                return 0;
            }
            return Math.abs(a % wide - b % wide) + Math.abs(a / wide - b / wide);
        }

        int farFromOrgan(int hearer) {
            return far(at[hearer], organ);
        }

        boolean isNear(int a, int b) {
            return far(a, b) <= 1;
        }

        boolean doesLike(int hearer, int tune) {
            return (likes[hearer] >> tune & 1) == 1;
        }

        boolean isSeen(int hearer) {
            return (seen >> hearer & 1) == 1;
        }

        boolean isUp(int dog) {
            return hearersNear(dogAt[dog], 1) != 0;
        }

        int hearersNear(int cell, int reach) {
            int set = 0;
            for (int hearer = 0; hearer < hearers; hearer++) {
                if (far(at[hearer], cell) <= reach) {
                    set |= 1 << hearer;
                }
            }
            return set;
        }

        int likersOf(int tune) {
            int set = 0;
            for (int hearer = 0; hearer < hearers; hearer++) {
                if (doesLike(hearer, tune)) {
                    set |= 1 << hearer;
                }
            }
            return set;
        }

        /** The DOGS that are UP if one HEARER is in a CELL and no other anywhere. */
        int dogsUpFrom(int cell) {
            int set = 0;
            for (int dog = 0; dog < dogs; dog++) {
                if (isNear(dogAt[dog], cell)) {
                    set |= 1 << dog;
                }
            }
            return set;
        }

        private int dogsUp() {
            int set = 0;
            for (int dog = 0; dog < dogs; dog++) {
                if (isUp(dog)) {
                    set |= 1 << dog;
                }
            }
            return set;
        }

        /** How many COINS came, or NONE if nobody LIKES the TUNE. */
        int playTune(int tune) {
            if (likersOf(tune) == 0) {
                return NONE;
            }
            int came = 0;
            for (int hearer = 0; hearer < hearers; hearer++) {
                if (!doesLike(hearer, tune)) {
                    continue;
                }
                if (at[hearer] != organ) {
                    at[hearer] = aStepNearer(at[hearer]);
                } else if (coins[hearer] > 0) {
                    coins[hearer]--;
                    came++;
                }
            }
            cup = Math.min(FULL_CUP, cup + came);
            played++;
            return came;
        }

        private int aStepNearer(int cell) {
            if (wide <= 0) {
                return cell;
            }
            int columns = organ % wide - cell % wide;
            int rows = organ / wide - cell / wide;
            if (Math.abs(columns) >= Math.abs(rows)) {
                return cell + Integer.compare(columns, 0);
            }
            return cell + wide * Integer.compare(rows, 0);
        }

        /** How FAR it went, or NONE if it is there. */
        int moveOrgan(int cell) {
            if (organ == cell) {
                return NONE;
            }
            int far = far(organ, cell);
            organ = cell;
            return far;
        }

        /** The set of those who are hit, or NONE if nobody is. */
        int flour(int cell) {
            int hit = hearersNear(cell, 1);
            seen |= hit;
            return hit == 0 ? NONE : hit;
        }

        /** How many were SEEN, or NONE if nobody was. */
        int brushOff() {
            int many = Integer.bitCount(seen);
            seen = 0;
            return many == 0 ? NONE : many;
        }

        /** How FAR he went, or NONE if he is there. */
        int moveHearer(int hearer, int cell) {
            if (at[hearer] == cell) {
                return NONE;
            }
            int far = far(at[hearer], cell);
            at[hearer] = cell;
            return far;
        }

        /** What was in it, or NONE if nothing was. */
        int emptyCup() {
            int had = cup;
            cup = 0;
            return had == 0 ? NONE : had;
        }

        /** Each STEP brings one nearer by 1, so he stands at the ORGAN behind as many PLAYS as he is FAR. */
        int coinsFrom(int cell, int tune, int plays) {
            int came = 0;
            for (int hearer = 0; hearer < hearers; hearer++) {
                if (doesLike(hearer, tune)) {
                    came += Math.min(coins[hearer], Math.max(0, plays - far(at[hearer], cell)));
                }
            }
            return came;
        }
    }

    /** DAYS as a row of STEPS and ends. */
    private static final class Days {
        static final int MOST_STEPS = 30;
        static final int MOST_LOOPS = 99;
        static final int MOST_SIZE = 2 * MOST_STEPS;

        final int[] word = new int[MOST_SIZE];
        final int[] first = new int[MOST_SIZE];
        final int[] second = new int[MOST_SIZE];
        final int[] sign = new int[MOST_SIZE];
        /** Of a when or loop its end, of an end its when or loop. */
        final int[] partner = new int[MOST_SIZE];
        boolean there = false;
        int size = 0;
        int steps = 0;

        void clear() {
            there = false;
            size = 0;
            steps = 0;
        }

        void add(int itsWord) {
            if (size < MOST_SIZE) {
                word[size] = itsWord;
                size++;
            }
        }

        void join(int beginning, int end) {
            partner[beginning] = end;
            partner[end] = beginning;
        }

        void copyFrom(Days other) {
            System.arraycopy(other.word, 0, word, 0, other.size);
            System.arraycopy(other.first, 0, first, 0, other.size);
            System.arraycopy(other.second, 0, second, 0, other.size);
            System.arraycopy(other.sign, 0, sign, 0, other.size);
            System.arraycopy(other.partner, 0, partner, 0, other.size);
            there = other.there;
            size = other.size;
            steps = other.steps;
        }
    }

    /** One run of the DAYS of a SQUARE, and what is told of it. */
    private static final class Life {
        private static final int MOST_STEPS_DONE = 300;
        /** Each STEP has but a few ends behind it, so this is far above what any run needs. */
        private static final int MOST_LOOKS = 100000;

        private final int[] timesLeft = new int[Days.MOST_SIZE];
        private int drawn = 0;
        private int drawnTune = 0;
        private int drawnCell = 0;
        private boolean isPlay = false;
        private int missed = 0;
        private int plays = 0;
        private int coins = 0;
        private int hits = 0;
        private boolean isLeft = false;
        int steps = 0;
        boolean hasRun = false;

        void run(Square square, int seed) {
            drawn = seed;
            steps = 0;
            missed = 0;
            plays = 0;
            coins = 0;
            hits = 0;
            isLeft = false;
            hasRun = true;
            Days days = square.days;
            int next = 0;
            for (int i = 0; i < MOST_LOOKS && next < days.size && !isLeft; i++) {
                if (days.word[next] == Tokens.W_END) {
                    next = behindEnd(days, next);
                } else if (steps >= MOST_STEPS_DONE) {
                    isLeft = true;
                } else {
                    steps++;
                    act(square, next);
                    next = behindStep(square, next);
                }
            }
        }

        int count(int what) {
            switch (what) {
                case 0:
                    return missed;
                case 1:
                    return plays;
                case 2:
                    return coins;
                case 3:
                    return hits;
                default:
                    return isLeft ? 1 : 0;
            }
        }

        private int behindEnd(Days days, int end) {
            int beginning = days.partner[end];
            if (days.word[beginning] == Tokens.W_LOOP) {
                timesLeft[beginning]--;
                if (timesLeft[beginning] > 0) {
                    return beginning + 1;
                }
            }
            return end + 1;
        }

        private int behindStep(Square square, int step) {
            Days days = square.days;
            switch (days.word[step]) {
                case Tokens.W_STOP:
                    return days.size;
                case Tokens.W_LOOP:
                    timesLeft[step] = days.first[step];
                    // an empty loop would only turn without doing a STEP
                    return days.partner[step] == step + 1 ? step + 2 : step + 1;
                case Tokens.W_UP:
                case Tokens.W_SEEN:
                case Tokens.W_CUP:
                case Tokens.W_FAR:
                    return holds(square, step) ? step + 1 : days.partner[step] + 1;
                default:
                    return step + 1;
            }
        }

        private boolean holds(Square square, int step) {
            Days days = square.days;
            int first = days.first[step];
            switch (days.word[step]) {
                case Tokens.W_UP:
                    return square.isUp(first);
                case Tokens.W_SEEN:
                    return square.isSeen(first);
                case Tokens.W_CUP:
                    return compares(square.cup, days.sign[step], days.second[step]);
                default:
                    return compares(square.farFromOrgan(first), days.sign[step], days.second[step]);
            }
        }

        private static boolean compares(int a, int sign, int b) {
            if (sign == '<') {
                return a < b;
            }
            return sign == '>' ? a > b : a == b;
        }

        private void act(Square square, int step) {
            int first = square.days.first[step];
            switch (square.days.word[step]) {
                case Tokens.W_PLAY:
                    playOne(square, first);
                    break;
                case Tokens.W_THROW:
                    throwOne(square, first);
                    break;
                case Tokens.W_GRIND:
                    countMissed(square.moveOrgan(first));
                    break;
                case Tokens.W_SEND:
                    countMissed(square.moveHearer(first, square.days.second[step]));
                    break;
                case Tokens.W_BRUSH:
                    countMissed(square.brushOff());
                    break;
                case Tokens.W_EMPTY:
                    countMissed(square.emptyCup());
                    break;
                case Tokens.W_ANY:
                    drawAll(square);
                    if (square.tunes == 0) {
                        missed++;
                    } else if (isPlay) {
                        playOne(square, drawnTune);
                    } else {
                        throwOne(square, drawnCell);
                    }
                    break;
                default:
                    break;
            }
        }

        /** Draws what any does, which needs all three draws whatever they are; none without TUNES. */
        private void drawAll(Square square) {
            if (square.tunes > 0) {
                drawnTune = draw(square.tunes);
                drawnCell = draw(square.cells());
                isPlay = draw(MOST_ODDS) < square.odds;
            }
        }

        private void playOne(Square square, int tune) {
            int came = square.playTune(tune);
            if (came == NONE) {
                missed++;
            } else {
                plays++;
                coins += came;
            }
        }

        private void throwOne(Square square, int cell) {
            if (square.flour(cell) == NONE) {
                missed++;
            } else {
                hits++;
            }
        }

        private void countMissed(int answer) {
            if (answer == NONE) {
                missed++;
            }
        }

        private int draw(int by) {
            drawn = (drawn * 3257 + 11483) % 65536;
            return by > 0 ? drawn / 8 % by : 0;
        }
    }

    /** Rows of TUNES: the shortest that gathers some HEARERS, and the best in a game. */
    private static final class Rows {
        /** How FAR one can be, with 0. */
        private static final int FARS = MOST_FAR + 1;
        private static final int BY_NO_ROW = 1000;

        /** The fewest TUNES for three HEARERS who are so FAR, by which they gather. */
        private final int[] fewest = new int[FARS * FARS * FARS];
        private final int[] fars = new int[MOST_HEARERS];
        private final int[] likes = new int[MOST_HEARERS];
        private final int[] timesPlayed = new int[MOST_TUNES];
        private Square square = null;
        private int tunes = 0;

        /** How many TUNES, or NONE. */
        int fewestTunes(Square now, int hearers) {
            Arrays.fill(fars, 0);
            Arrays.fill(likes, 0);
            tunes = now.tunes;
            int many = 0;
            for (int i = 0; i < now.hearers && many < MOST_GATHERED; i++) {
                if ((hearers >> i & 1) == 1) {
                    fars[many] = now.farFromOrgan(i);
                    likes[many] = now.likes[i];
                    many++;
                }
            }
            for (int a = 0; a <= fars[0]; a++) {
                for (int b = 0; b <= fars[1]; b++) {
                    for (int c = 0; c <= fars[2]; c++) {
                        fewest[index(a, b, c)] = fewestFrom(a, b, c);
                    }
                }
            }
            int all = fewest[index(fars[0], fars[1], fars[2])];
            return all >= BY_NO_ROW ? NONE : all;
        }

        private int fewestFrom(int a, int b, int c) {
            int here = index(a, b, c);
            int best = here == 0 ? 0 : BY_NO_ROW;
            for (int tune = 0; tune < tunes; tune++) {
                int behind = index(left(0, a, tune), left(1, b, tune), left(2, c, tune));
                // a TUNE that moves none of them is in no shortest row
                if (behind != here) {
                    best = Math.min(best, fewest[behind] + 1);
                }
            }
            return best;
        }

        /** The k-th TUNE of the row that fewestTunes() found; k is below its length. */
        int tuneOfRow(int k) {
            int a = fars[0];
            int b = fars[1];
            int c = fars[2];
            int tune = NONE;
            for (int i = 0; i <= k; i++) {
                tune = firstGoodTune(a, b, c);
                a = left(0, a, tune);
                b = left(1, b, tune);
                c = left(2, c, tune);
            }
            return tune;
        }

        private int firstGoodTune(int a, int b, int c) {
            int wanted = fewest[index(a, b, c)] - 1;
            for (int tune = 0; tune < tunes; tune++) {
                if (fewest[index(left(0, a, tune), left(1, b, tune), left(2, c, tune))] == wanted) {
                    return tune;
                }
            }
            return NONE;
        }

        private int left(int who, int far, int tune) {
            return far > 0 && tune >= 0 && (likes[who] >> tune & 1) == 1 ? far - 1 : far;
        }

        private static int index(int a, int b, int c) {
            return (a * FARS + b) * FARS + c;
        }

        int coinsOfGame(Square now, int turns) {
            setUp(now);
            return value(0, turns, 0);
        }

        /** The TUNE, or NONE if it is best to play none. */
        int firstTuneOfGame(Square now, int turns) {
            setUp(now);
            int best = NONE;
            int most = NONE;
            for (int tune = 0; tune < tunes; tune++) {
                int coins = valueBehind(tune, 0, turns, 0);
                if (coins > most) {
                    best = tune;
                    most = coins;
                }
            }
            return value(1, turns, 0) > most ? NONE : best;
        }

        private void setUp(Square now) {
            square = now;
            tunes = now.tunes;
            Arrays.fill(timesPlayed, 0);
            for (int i = 0; i < now.hearers; i++) {
                fars[i] = now.farFromOrgan(i);
            }
        }

        /** Even turns are his who plays, odd ones his who bans; the document's limit keeps them few. */
        private int value(int turn, int turns, int banned) {
            boolean isPlayers = turn % 2 == 0;
            // a ban behind which nothing is played changes nothing
            int lastTurn = isPlayers ? turns : turns - 1;
            if (turn >= lastTurn || turn >= MOST_TURNS) {
                return coinsCome();
            }
            int best = value(turn + 1, turns, banned);
            for (int tune = 0; tune < tunes; tune++) {
                if ((banned >> tune & 1) == 1) {
                    continue;
                }
                best = isPlayers
                        ? Math.max(best, valueBehind(tune, turn, turns, banned))
                        : Math.min(best, value(turn + 1, turns, banned | 1 << tune));
            }
            return best;
        }

        private int valueBehind(int tune, int turn, int turns, int banned) {
            timesPlayed[tune]++;
            int coins = value(turn + 1, turns, banned);
            timesPlayed[tune]--;
            return coins;
        }

        /** What came does not hang on the order of the TUNES: only those in excess of the way bring a COIN. */
        private int coinsCome() {
            int came = 0;
            for (int i = 0; square != null && i < square.hearers; i++) {
                int heard = 0;
                for (int tune = 0; tune < tunes; tune++) {
                    if (square.doesLike(i, tune)) {
                        heard += timesPlayed[tune];
                    }
                }
                came += Math.min(square.coins[i], Math.max(0, heard - fars[i]));
            }
            return came;
        }
    }

    /** Sets of CELLS by the DOGS that would be UP. */
    private static final class Placings {
        private static final int DOG_SETS = 1 << MOST_DOGS;
        private static final int BY_NO_SET = 1000;

        private final int[] upFrom = new int[MOST_CELLS];
        private final int[] fewest = new int[DOG_SETS];
        private int cells = 0;

        void look(Square square) {
            cells = Math.min(square.cells(), MOST_CELLS);
            for (int cell = 0; cell < cells; cell++) {
                upFrom[cell] = square.dogsUpFrom(cell);
            }
        }

        /** How many CELLS, or NONE. */
        int fewestCells(int dogs) {
            Arrays.fill(fewest, BY_NO_SET);
            fewest[0] = 0;
            // a CELL more never makes the number of a set less, so one way upwards is enough
            for (int set = 0; set < DOG_SETS; set++) {
                for (int cell = 0; cell < cells; cell++) {
                    int with = set | upFrom[cell];
                    if ((upFrom[cell] & ~dogs) == 0) {
                        fewest[with] = Math.min(fewest[with], fewest[set] + 1);
                    }
                }
            }
            return fewest[dogs] >= BY_NO_SET ? NONE : fewest[dogs];
        }

        /**
         * How many sets of k CELLS, none of them left out, have just these DOGS UP: those with none but
         * these DOGS UP, less those that lack one of them, and so on by in- and exclusion.
         */
        int countWithout(int dogs, int k, int leftOut) {
            int many = 0;
            for (int set = 0; set <= dogs; set++) {
                if ((set & ~dogs) == 0) {
                    int ways = choose(cellsWithin(set, leftOut), k);
                    many += Integer.bitCount(dogs ^ set) % 2 == 0 ? ways : -ways;
                }
            }
            return many;
        }

        private int cellsWithin(int dogs, int leftOut) {
            int many = 0;
            for (int cell = 0; cell < cells; cell++) {
                if ((upFrom[cell] & ~dogs) == 0 && (leftOut >> cell & 1) == 0) {
                    many++;
                }
            }
            return many;
        }

        /** The CELL, or NONE if there are no PLACINGS. */
        int cellThatHitsMost(Square square, int dogs, int k) {
            int all = countWithout(dogs, k, 0);
            int best = NONE;
            // where the fewest are without a hit, the most have one
            int fewestMisses = all;
            for (int cell = 0; cell < cells && all > 0; cell++) {
                int misses = countWithout(dogs, k, hitCells(square, cell));
                if (best == NONE || misses < fewestMisses) {
                    best = cell;
                    fewestMisses = misses;
                }
            }
            return best;
        }

        private int hitCells(Square square, int target) {
            int set = 0;
            for (int cell = 0; cell < cells; cell++) {
                if (square.isNear(cell, target)) {
                    set |= 1 << cell;
                }
            }
            return set;
        }
    }

    /** The fewest THROWS that hit all of some CELLS. */
    private static final class Covering {
        private static final int SETS = 1 << MOST_COVERED;
        private static final int BY_NO_ROW = 1000;

        /** Of each CELL the wanted ones that a THROW at it hits. */
        private final int[] hits = new int[MOST_CELLS];
        /** Of each set of wanted ones the fewest THROWS. */
        private final int[] fewest = new int[SETS];
        private int cells = 0;
        private int all = 0;

        /** False if one of the numbers is no CELL. */
        boolean solve(Square square, Tray tray, int n) {
            cells = Math.min(square.cells(), MOST_CELLS);
            all = (1 << n) - 1;
            Arrays.fill(hits, 0);
            for (int i = 0; i < n; i++) {
                long wanted = tray.numberAt(i);
                if (wanted < 0 || wanted >= cells) {
                    return false;
                }
                for (int cell = 0; cell < cells; cell++) {
                    if (square.isNear(cell, (int) wanted)) {
                        hits[cell] |= 1 << i;
                    }
                }
            }
            for (int set = 1; set <= all; set++) {
                fewest[set] = fewestFor(set);
            }
            return true;
        }

        /** Some THROW must hit the lowest of the set, so only those that do are tried. */
        private int fewestFor(int set) {
            int lowest = set & -set;
            int best = BY_NO_ROW;
            for (int cell = 0; cell < cells; cell++) {
                if ((hits[cell] & lowest) != 0) {
                    best = Math.min(best, fewest[set & ~hits[cell]] + 1);
                }
            }
            return best;
        }

        int fewestThrows() {
            return fewest[all];
        }

        /**
         * The k-th CELL of the row; k is below its length. The first CELL that is in a shortest row is in
         * the first row, and no CELL ahead of it can be in what is left of that, so the row rises.
         */
        int cellOfRow(int k) {
            int left = all;
            int found = NONE;
            for (int i = 0; i <= k; i++) {
                found = firstGoodCell(left);
                left = found == NONE ? left : left & ~hits[found];
            }
            return found;
        }

        private int firstGoodCell(int set) {
            for (int cell = 0; cell < cells; cell++) {
                if (fewest[set & ~hits[cell]] == fewest[set] - 1) {
                    return cell;
                }
            }
            return NONE;
        }
    }

    /** Who knows that he is floured, by worlds: a world is a set of HEARERS who may be floured. */
    private static final class Knowing {
        private static final int MOST_WORLDS = 1 << MOST_HEARERS;

        private final int[] sees = new int[MOST_HEARERS];
        private int hearers = 0;
        /** The worlds that all that was told leaves, a bit a world. */
        private long possible = 0;

        /** The ROUND, or NONE. */
        int firstRound(Square square, int floured, int sight) {
            look(square, sight);
            for (int round = 1; round <= MOST_WORLDS; round++) {
                if (knowersIn(floured) != 0) {
                    return round;
                }
                if (!hearAll(floured)) {
                    return NONE;
                }
            }
            return NONE;
        }

        int knowersOf(Square square, int floured, int sight, int round) {
            look(square, sight);
            boolean isNews = true;
            for (int i = 1; i < round && isNews; i++) {
                isNews = hearAll(floured);
            }
            return knowersIn(floured);
        }

        private void look(Square square, int sight) {
            hearers = square.hearers;
            for (int i = 0; i < hearers; i++) {
                sees[i] = square.hearersNear(square.at[i], sight) & ~(1 << i);
            }
            possible = 0;
            for (int world = 1; world < 1 << hearers; world++) {
                possible |= 1L << world;
            }
        }

        /** All tell what they know: the worlds in which they would tell otherwise go; false if none does. */
        private boolean hearAll(int floured) {
            int told = knowersIn(floured);
            long left = 0;
            for (int world = 1; world < 1 << hearers; world++) {
                if (isPossible(world) && knowersIn(world) == told) {
                    left |= 1L << world;
                }
            }
            boolean isNews = left != possible;
            possible = left;
            return isNews;
        }

        private int knowersIn(int world) {
            int set = 0;
            for (int i = 0; i < hearers; i++) {
                if ((world >> i & 1) == 1 && knows(i, world)) {
                    set |= 1 << i;
                }
            }
            return set;
        }

        /** He knows it, if no world is left that looks the same to him and in which he is not floured. */
        private boolean knows(int hearer, int world) {
            int seen = world & sees[hearer];
            int hidden = ((1 << hearers) - 1) & ~sees[hearer] & ~(1 << hearer);
            for (int other = 0; other <= hidden; other++) {
                if ((other & ~hidden) == 0 && isPossible(seen | other)) {
                    return false;
                }
            }
            return true;
        }

        private boolean isPossible(int world) {
            return (possible >> world & 1) == 1;
        }
    }
}
