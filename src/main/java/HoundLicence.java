/**
 * A ring of streets in which dogs keep men. Every call answers a number; what is refused
 * answers one of the constants below zero and changes nothing.
 */
public final class HoundLicence {
    public static final int UNKNOWN = -1, BAD = -2, LATE = -3, FULL = -4, NONE = -9;

    private static final int STREETS = 5;
    private static final int MOST_DOGS = 4;
    private static final int MOST_MEN = 5;
    private static final int MOST_BYTES = 60;
    private static final int MOST_ACTS = 14;
    private static final int MOST_SEEN = 6;
    private static final int MOST_STEPS = 7;
    private static final int MOST_HOURS = 24;
    private static final int MOST_DAYS = 30;
    private static final int SLOTS = 2;
    private static final int ROUND = 4;
    private static final int CLOCK = 12;
    private static final int STAYS = 0, ON = 1, BACK = 2;
    private static final int WAYS = 3;

    private final int[] text = new int[MOST_BYTES];
    private int length = 0;
    private final Reader reader = new Reader();
    private final Law law = new Law();
    private final Town town = new Town();
    // What is only asked comes to pass here, so that the town itself stays as it is.
    private final Town trial = new Town();
    private final Acts acts = new Acts();
    private final Slots slots = new Slots();
    private final Ahead ahead = new Ahead();
    private final Sightings sightings = new Sightings();
    private long seed = 0L;

    public HoundLicence() {
    }

    // ---- the law

    public int write(int letter) {
        if (letter < 0 || letter > 255) {
            return BAD;
        }
        if (length >= MOST_BYTES) {
            return FULL;
        }
        text[length] = letter;
        length++;
        return length;
    }

    public int wipe() {
        int was = length;
        length = 0;
        return was;
    }

    public int fault() {
        return reader.firstFault(text, length);
    }

    public int ordain() {
        if (reader.firstFault(text, length) != NONE) {
            return LATE;
        }
        law.become(reader.law);
        town.become(reader.town);
        acts.forget();
        slots.forget();
        return 10 * law.dogs + law.men;
    }

    public int about(int what) {
        switch (what) {
            case 0: return law.dogs;
            case 1: return law.men;
            case 2: return law.leash;
            case 3: return town.hour;
            case 4: return law.wardenAt(town.hour);
            case 5: return town.leashed;
            case 6: return town.impounded(law);
            case 7: return town.allBones(law);
            case 8: return acts.count;
            case 9: return sightings.count;
            case 10: return length;
            default: return BAD;
        }
    }

    public int dog(int dog, int what) {
        if (!law.hasDog(dog)) {
            return UNKNOWN;
        }
        switch (what) {
            case 0: return town.dogStreet[dog];
            case 1: return law.rank[dog];
            case 2: return law.room[dog];
            case 3: return town.keptBy(law, dog);
            case 4: return town.bones[dog];
            case 5: return law.parent[dog];
            default: return BAD;
        }
    }

    public int man(int man, int what) {
        if (!law.hasMan(man)) {
            return UNKNOWN;
        }
        switch (what) {
            case 0: return town.keeper[man];
            case 1: return town.manStreet[man];
            case 2: return law.sings(man) ? 1 : 0;
            case 3: return town.isLeashed(man) ? 1 : 0;
            case 4: return town.sentence[man];
            default: return BAD;
        }
    }

    // ---- acts

    public int lead(int dog, int way) {
        if (!law.hasDog(dog)) {
            return UNKNOWN;
        }
        if (way != ON && way != BACK) {
            return BAD;
        }
        acts.remember(town);
        town.goes(law, dog, way);
        return town.dogStreet[dog];
    }

    public int leash(int man) {
        if (!law.hasMan(man)) {
            return UNKNOWN;
        }
        if (town.keeper[man] == NONE || town.isImpounded(man)) {
            return LATE;
        }
        acts.remember(town);
        town.leashed ^= 1 << man;
        return town.isLeashed(man) ? 1 : 0;
    }

    public int give(int man, int dog) {
        if (!law.hasMan(man) || !law.hasDog(dog)) {
            return UNKNOWN;
        }
        int was = town.keeper[man];
        if (town.isImpounded(man) || was == dog || town.manStreet[man] != town.dogStreet[dog]) {
            return LATE;
        }
        if (!town.hasRoom(law, dog)) {
            return FULL;
        }
        acts.remember(town);
        town.keeper[man] = dog;
        return was;
    }

    public int hour() {
        acts.remember(town);
        return town.passHour(law, law.leash, 0);
    }

    public int undo() {
        if (acts.count == 0) {
            return LATE;
        }
        acts.takeBack(town);
        return acts.count;
    }

    // ---- ahead

    public int caught(int n) {
        if (n < 0 || n > MOST_HOURS) {
            return BAD;
        }
        return tryHours(n, law.leash, 0);
    }

    public int routes(int dog, int n, int street, int what) {
        if (!law.hasDog(dog)) {
            return UNKNOWN;
        }
        if (n < 1 || n > MOST_STEPS || street < 0 || street >= STREETS || what < 0 || what > 1) {
            return BAD;
        }
        ahead.look(law, town, dog);
        int from = town.dogStreet[dog];
        ahead.countWays(n, street);
        return what == 0 ? ahead.waysFrom(from) : ahead.firstRow(n, from);
    }

    public int aired(int dog) {
        if (!law.hasDog(dog)) {
            return UNKNOWN;
        }
        ahead.look(law, town, dog);
        return law.hasRival(dog) ? NONE : ahead.fewestHours(town.dogStreet[dog]);
    }

    public int heir(int dog) {
        if (!law.hasDog(dog)) {
            return UNKNOWN;
        }
        int best = NONE;
        for (int other = 0; other < law.dogs; other++) {
            if (other != dog && law.degree(dog, other) != NONE && law.inheritsBefore(dog, other, best)) {
                best = other;
            }
        }
        return best;
    }

    public int pays(int h, int n) {
        if (h < 0 || h > CLOCK || n < 0 || n > MOST_HOURS) {
            return BAD;
        }
        tryHours(n, h, 0);
        return trial.allBones(law) - town.allBones(law);
    }

    public int spans(int a, int b, int t) {
        if (a < 1 || a > 9 || b < 1 || b > 9 || t < 0 || t > 99) {
            return BAD;
        }
        return a * (t + 1) / (a + b) > a * t / (a + b) ? 0 : 1;
    }

    /** Lets hours pass in the trial town alone: who is caught in them, as bits. */
    private int tryHours(int hours, int leash, int farther) {
        int caught = 0;
        trial.become(town);
        for (int i = 0; i < hours; i++) {
            caught |= trial.passHour(law, leash, farther);
        }
        return caught;
    }

    // ---- seen

    public int see(int man, int street, int t) {
        if (!law.hasMan(man)) {
            return UNKNOWN;
        }
        if (street < 0 || street >= STREETS || t < 0 || t >= CLOCK) {
            return BAD;
        }
        if (sightings.count >= MOST_SEEN) {
            return FULL;
        }
        sightings.add(man, street, t);
        return sightings.count;
    }

    public int unsee() {
        int was = sightings.count;
        sightings.count = 0;
        return was;
    }

    public int walks() {
        sightings.look(law, town);
        return sightings.ways(law);
    }

    public int sure(int man) {
        if (!law.hasMan(man)) {
            return UNKNOWN;
        }
        sightings.look(law, town);
        return sightings.onlyCompany(law, man);
    }

    // ---- rests, chances

    public int rests(int row, int what) {
        if (row < 0 || row > 99999 || what < 0 || what > 1) {
            return BAD;
        }
        int count = 0;
        int first = NONE;
        for (int pair = 0; pair < STREETS * STREETS; pair++) {
            int warden = pair / STREETS;
            int bachelor = pair % STREETS;
            if (Rest.holds(row, warden, bachelor)) {
                first = count == 0 ? 10 * warden + bachelor : first;
                count++;
            }
        }
        return what == 0 ? count : first;
    }

    public int chance(int man, int n, boolean upper) {
        if (!law.hasMan(man)) {
            return UNKNOWN;
        }
        if (n < 0 || n > MOST_HOURS) {
            return BAD;
        }
        int above = 0;
        for (int farther = 0; farther < ROUND; farther++) {
            above += tryHours(n, law.leash, farther) >> man & 1;
        }
        int shared = above == 0 || above == ROUND ? ROUND : above == 2 ? 2 : 1;
        return upper ? above / shared : ROUND / shared;
    }

    public long seed(long v) {
        long was = seed;
        seed = v;
        return was;
    }

    public int days(int m) {
        if (m < 1 || m > MOST_DAYS) {
            return BAD;
        }
        int caught = 0;
        trial.become(town);
        for (int i = 0; i < m; i++) {
            seed = seed * 6364136223846793005L + 1442695040888963407L;
            int drawn = (int) ((seed >>> 33) % 12L);
            int dog = drawn / WAYS;
            if (law.hasDog(dog)) {
                trial.goes(law, dog, drawn % WAYS);
            }
            caught += Integer.bitCount(trial.passHour(law, law.leash, 0));
        }
        return caught;
    }

    // ---- slots

    public int keep(int slot) {
        if (slot < 0 || slot >= SLOTS) {
            return UNKNOWN;
        }
        slots.put(slot, town);
        return town.hour;
    }

    public int again(int slot) {
        if (slot < 0 || slot >= SLOTS) {
            return UNKNOWN;
        }
        if (!slots.holds(slot)) {
            return LATE;
        }
        slots.restore(slot, town);
        acts.forget();
        return town.hour;
    }

    private static int streetBy(int street, int way) {
        return (street + (way == BACK ? STREETS - 1 : way)) % STREETS;
    }

    /** What a text lays down and no act changes. */
    private static final class Law {
        int dogs = 0;
        int men = 0;
        int leash = CLOCK;
        int singers = 0;
        final int[] round = new int[ROUND];
        final int[] rank = new int[MOST_DOGS];
        final int[] room = new int[MOST_DOGS];
        final int[] parent = new int[MOST_DOGS];

        void clear() {
            dogs = 0;
            men = 0;
            leash = 0;
            singers = 0;
        }

        void become(Law other) {
            dogs = other.dogs;
            men = other.men;
            leash = other.leash;
            singers = other.singers;
            System.arraycopy(other.round, 0, round, 0, ROUND);
            System.arraycopy(other.rank, 0, rank, 0, MOST_DOGS);
            System.arraycopy(other.room, 0, room, 0, MOST_DOGS);
            System.arraycopy(other.parent, 0, parent, 0, MOST_DOGS);
        }

        boolean hasDog(int dog) {
            return dog >= 0 && dog < dogs;
        }

        boolean hasMan(int man) {
            return man >= 0 && man < men;
        }

        boolean sings(int man) {
            return (singers >> man & 1) == 1;
        }

        int wardenAt(int hour) {
            return round[Math.floorMod(hour, ROUND)];
        }

        boolean mayParent(int dog, int child) {
            return dog != child && parent[child] == NONE && !comesFrom(dog, child);
        }

        /** Two dogs without a parent are enough: no dog comes from both of them. */
        boolean mayParentSome() {
            int parentless = 0;
            for (int dog = 0; dog < dogs; dog++) {
                parentless += parent[dog] == NONE ? 1 : 0;
            }
            return parentless > 1;
        }

        private boolean comesFrom(int dog, int forebear) {
            int up = dog;
            for (int i = 0; i < MOST_DOGS && hasDog(up); i++) {
                if (up == forebear) {
                    return true;
                }
                up = parent[up];
            }
            return false;
        }

        /** Whether there is another of its rank: that one's street stays closed to it for good. */
        boolean hasRival(int dog) {
            for (int other = 0; other < dogs; other++) {
                if (other != dog && rank[other] == rank[dog]) {
                    return true;
                }
            }
            return false;
        }

        /** How many steps of parent or child lie between two dogs; NONE: they are no kin. */
        int degree(int dog, int other) {
            int up = dog;
            for (int i = 0; i < MOST_DOGS && hasDog(up); i++) {
                int otherUp = other;
                for (int j = 0; j < MOST_DOGS && hasDog(otherUp); j++) {
                    if (up == otherUp) {
                        return i + j;
                    }
                    otherUp = parent[otherUp];
                }
                up = parent[up];
            }
            return NONE;
        }

        /** Whether one of its kin, told behind the best so far, comes ahead of that one. */
        boolean inheritsBefore(int dog, int other, int best) {
            if (!hasDog(best)) {
                return true;
            }
            int nearer = degree(dog, best) - degree(dog, other);
            return nearer > 0 || nearer == 0 && rank[other] > rank[best];
        }
    }

    /** What acts change. */
    private static final class Town {
        private static final int SENTENCE = 3;
        private static final int FINE = 2;

        int hour = 0;
        int leashed = 0;
        final int[] dogStreet = new int[MOST_DOGS];
        final int[] bones = new int[MOST_DOGS];
        final int[] keeper = new int[MOST_MEN];
        final int[] manStreet = new int[MOST_MEN];
        final int[] sentence = new int[MOST_MEN];

        void become(Town other) {
            hour = other.hour;
            leashed = other.leashed;
            System.arraycopy(other.dogStreet, 0, dogStreet, 0, MOST_DOGS);
            System.arraycopy(other.bones, 0, bones, 0, MOST_DOGS);
            System.arraycopy(other.keeper, 0, keeper, 0, MOST_MEN);
            System.arraycopy(other.manStreet, 0, manStreet, 0, MOST_MEN);
            System.arraycopy(other.sentence, 0, sentence, 0, MOST_MEN);
        }

        boolean isLeashed(int man) {
            return (leashed >> man & 1) == 1;
        }

        boolean isImpounded(int man) {
            return sentence[man] > 0;
        }

        int impounded(Law law) {
            int bits = 0;
            for (int man = 0; man < law.men; man++) {
                if (isImpounded(man)) {
                    bits |= 1 << man;
                }
            }
            return bits;
        }

        int keptBy(Law law, int dog) {
            int bits = 0;
            for (int man = 0; man < law.men; man++) {
                if (keeper[man] == dog) {
                    bits |= 1 << man;
                }
            }
            return bits;
        }

        boolean hasRoom(Law law, int dog) {
            return Integer.bitCount(keptBy(law, dog)) < law.room[dog];
        }

        int allBones(Law law) {
            int sum = 0;
            for (int dog = 0; dog < law.dogs; dog++) {
                sum += bones[dog];
            }
            return sum;
        }

        void goes(Law law, int dog, int way) {
            dogStreet[dog] = streetBy(dogStreet[dog], way);
            for (int man = 0; man < law.men; man++) {
                if (keeper[man] == dog && !isImpounded(man)) {
                    manStreet[man] = dogStreet[dog];
                }
            }
        }

        /**
         * An hour passes: who is caught, as bits. The leash and how much farther the round has
         * gone are told from outside, since some questions ask for others than the law's.
         */
        int passHour(Law law, int leash, int farther) {
            int warden = law.wardenAt(hour + farther);
            boolean late = isLate(hour, leash);
            int caught = 0;
            for (int man = 0; man < law.men; man++) {
                if (isImpounded(man)) {
                    serve(law, man);
                } else if (manStreet[man] == warden && mayBeCaught(law, man, late)) {
                    impound(law, man);
                    caught |= 1 << man;
                }
            }
            hour++;
            return caught;
        }

        private static boolean isLate(int hour, int leash) {
            return Math.floorMod(hour, CLOCK) >= leash;
        }

        private boolean mayBeCaught(Law law, int man, boolean late) {
            return keeper[man] == NONE || !isLeashed(man) && (late || law.sings(man));
        }

        private void impound(Law law, int man) {
            sentence[man] = SENTENCE;
            int dog = keeper[man];
            if (law.hasDog(dog)) {
                bones[dog] += FINE;
            }
        }

        private void serve(Law law, int man) {
            sentence[man]--;
            int dog = keeper[man];
            if (!isImpounded(man) && law.hasDog(dog)) {
                manStreet[man] = dogStreet[dog];
            }
        }

        /**
         * The street on which the dog would lose a man some hours from now, if it has lost none
         * until then; NONE: no street. Who is impounded is out of the warden's reach until its
         * last hour is over.
         */
        int perilAt(Law law, int dog, int later) {
            boolean late = isLate(hour + later, law.leash);
            for (int man = 0; man < law.men; man++) {
                if (keeper[man] == dog && sentence[man] <= later && mayBeCaught(law, man, late)) {
                    return law.wardenAt(hour + later);
                }
            }
            return NONE;
        }
    }

    /**
     * Reads a text byte by byte into a law and a town of its own. Nothing ever happens in that
     * town: no hour passes there, nobody is leashed, no bones are paid.
     */
    private static final class Reader {
        private static final int HEAD = 'L', DOG = 'D', MAN = 'M', PARENT = 'P';
        private static final int HEAD_BYTES = 7, DOG_BYTES = 4, MAN_BYTES = 4, PARENT_BYTES = 3;
        private static final int START = 0, BETWEEN = 1;

        final Law law = new Law();
        final Town town = new Town();
        // Which part is open (or START, BETWEEN), and how many of its bytes have been read.
        private int part = START;
        private int place = 0;
        private int parent = 0;

        int firstFault(int[] text, int length) {
            law.clear();
            part = START;
            for (int at = 0; at < length && at < text.length; at++) {
                if (!takes(text[at])) {
                    return at;
                }
            }
            return part == BETWEEN ? NONE : length;
        }

        private boolean takes(int letter) {
            switch (part) {
                case START: return letter == HEAD && opens(letter);
                case BETWEEN: return mayOpen(letter) && opens(letter);
                case HEAD: return goesOn(takesHead(figure(letter)), HEAD_BYTES);
                case DOG: return goesOn(takesDog(figure(letter)), DOG_BYTES);
                case MAN: return goesOn(takesMan(letter), MAN_BYTES);
                default: return goesOn(takesParent(figure(letter)), PARENT_BYTES);
            }
        }

        private boolean opens(int letter) {
            part = letter;
            place = 1;
            return true;
        }

        /** Behind a byte that its part takes: the part is over when it has all its bytes. */
        private boolean goesOn(boolean taken, int bytes) {
            place++;
            if (place == bytes) {
                part = BETWEEN;
            }
            return taken;
        }

        private boolean mayOpen(int letter) {
            switch (letter) {
                case DOG: return law.dogs < MOST_DOGS;
                case MAN: return law.men < MOST_MEN;
                case PARENT: return law.mayParentSome();
                default: return false;
            }
        }

        private static int figure(int letter) {
            return letter >= '0' && letter <= '9' ? letter - '0' : NONE;
        }

        private static boolean isStreet(int figure) {
            return figure >= 0 && figure < STREETS;
        }

        private boolean takesHead(int figure) {
            if (figure < 0) {
                return false;
            }
            if (place == 1) {
                law.leash = 10 * figure;
                return law.leash <= CLOCK;
            }
            if (place == 2) {
                law.leash += figure;
                return law.leash <= CLOCK;
            }
            law.round[Math.floorMod(place - 3, ROUND)] = figure;
            return isStreet(figure);
        }

        private boolean takesDog(int figure) {
            int dog = law.dogs;
            if (dog >= MOST_DOGS || figure < 0) {
                return false;
            }
            if (place == 1) {
                town.dogStreet[dog] = figure;
                return isStreet(figure);
            }
            if (place == 2) {
                law.rank[dog] = figure;
                return true;
            }
            law.room[dog] = figure;
            law.parent[dog] = NONE;
            law.dogs++;
            return figure >= 1 && figure <= 3;
        }

        private boolean takesMan(int letter) {
            int man = law.men;
            if (man >= MOST_MEN) {
                return false;
            }
            int figure = figure(letter);
            if (place == 1) {
                town.keeper[man] = figure;
                return letter == '-' || law.hasDog(figure) && town.hasRoom(law, figure);
            }
            if (place == 2) {
                int dog = town.keeper[man];
                town.manStreet[man] = figure;
                return law.hasDog(dog) ? figure == town.dogStreet[dog] : isStreet(figure);
            }
            law.men++;
            law.singers |= figure == 1 ? 1 << man : 0;
            return figure == 0 || figure == 1;
        }

        private boolean takesParent(int figure) {
            if (!law.hasDog(figure)) {
                return false;
            }
            if (place == 1) {
                parent = figure;
                return true;
            }
            if (!law.mayParent(parent, figure)) {
                return false;
            }
            law.parent[figure] = parent;
            return true;
        }
    }

    /** The towns as they were ahead of the last acts, the last one's behind. */
    private static final class Acts {
        int count = 0;
        private final Town[] before = new Town[MOST_ACTS];

        Acts() {
            for (int i = 0; i < MOST_ACTS; i++) {
                before[i] = new Town();
            }
        }

        void forget() {
            count = 0;
        }

        void remember(Town town) {
            if (count >= MOST_ACTS) {
                forgetFirst();
            }
            before[count].become(town);
            count++;
        }

        void takeBack(Town town) {
            if (count > 0) {
                count--;
                town.become(before[count]);
            }
        }

        /** The first one's town goes behind the others, to be used again. */
        private void forgetFirst() {
            Town first = before[0];
            for (int i = 1; i < MOST_ACTS; i++) {
                before[i - 1] = before[i];
            }
            before[MOST_ACTS - 1] = first;
            count = MOST_ACTS - 1;
        }
    }

    /** Towns that are kept. */
    private static final class Slots {
        private final Town[] kept = new Town[SLOTS];
        private int full = 0;

        Slots() {
            for (int i = 0; i < SLOTS; i++) {
                kept[i] = new Town();
            }
        }

        void forget() {
            full = 0;
        }

        boolean holds(int slot) {
            return (full >> slot & 1) == 1;
        }

        void put(int slot, Town town) {
            kept[slot].become(town);
            full |= 1 << slot;
        }

        void restore(int slot, Town town) {
            town.become(kept[slot]);
        }
    }

    /**
     * Where a dog can go. As long as none of its men is caught, all that differs from row to row
     * is the street of the dog; so rows are counted by street, not one by one.
     */
    private static final class Ahead {
        private static final int ALL_STREETS = (1 << STREETS) - 1;

        // By hours from now on: the street on which a man of the dog would be caught.
        private final int[] peril = new int[MOST_STEPS];
        // By steps gone and street: in how many ways the steps that are left end well.
        private final int[][] ways = new int[MOST_STEPS + 1][STREETS];
        // By street: the sets of streets with which the dog can be there, one bit a set.
        private int[] reached = new int[STREETS];
        private int[] reachedNext = new int[STREETS];

        void look(Law law, Town town, int dog) {
            for (int step = 0; step < MOST_STEPS; step++) {
                peril[step] = town.perilAt(law, dog, step);
            }
        }

        void countWays(int steps, int goal) {
            for (int street = 0; street < STREETS; street++) {
                ways[steps][street] = street == goal ? 1 : 0;
            }
            for (int step = steps - 1; step >= 0; step--) {
                for (int street = 0; street < STREETS; street++) {
                    ways[step][street] = 0;
                    for (int way = STAYS; way <= BACK; way++) {
                        ways[step][street] += waysBy(step, streetBy(street, way));
                    }
                }
            }
        }

        private int waysBy(int step, int next) {
            return next == peril[step] ? 0 : ways[step + 1][next];
        }

        int waysFrom(int street) {
            return ways[0][street];
        }

        int firstRow(int steps, int from) {
            if (ways[0][from] == 0) {
                return NONE;
            }
            int row = 0;
            int street = from;
            for (int step = 0; step < steps; step++) {
                int way = firstWay(step, street);
                row = 10 * row + way;
                street = streetBy(street, way);
            }
            return row;
        }

        private int firstWay(int step, int street) {
            int way = STAYS;
            while (way < BACK && waysBy(step, streetBy(street, way)) == 0) {
                way++;
            }
            return way;
        }

        int fewestHours(int from) {
            clearNext();
            reachedNext[from] = 1 << (1 << from);
            for (int step = 0; step < MOST_STEPS; step++) {
                swap();
                clearNext();
                for (int street = 0; street < STREETS; street++) {
                    spread(step, street);
                }
                if (allReached()) {
                    return step + 1;
                }
            }
            return NONE;
        }

        private void clearNext() {
            for (int street = 0; street < STREETS; street++) {
                reachedNext[street] = 0;
            }
        }

        private void swap() {
            int[] old = reached;
            reached = reachedNext;
            reachedNext = old;
        }

        private void spread(int step, int street) {
            for (int way = STAYS; way <= BACK; way++) {
                int next = streetBy(street, way);
                if (reached[street] != 0 && next != peril[step]) {
                    reachedNext[next] |= withStreet(reached[street], next);
                }
            }
        }

        /** The same sets, each with one street more. */
        private static int withStreet(int sets, int street) {
            int more = 0;
            for (int set = 0; set <= ALL_STREETS; set++) {
                if ((sets >> set & 1) == 1) {
                    more |= 1 << (set | 1 << street);
                }
            }
            return more;
        }

        private boolean allReached() {
            for (int street = 0; street < STREETS; street++) {
                if ((reachedNext[street] >> ALL_STREETS & 1) == 1) {
                    return true;
                }
            }
            return false;
        }
    }

    /** Which men were seen where, and who may have walked them. */
    private static final class Sightings {
        private static final int NOBODY = MOST_DOGS;
        private static final int TOLD_NOBODY = 9;

        int count = 0;
        private final int[] man = new int[MOST_SEEN];
        private final int[] street = new int[MOST_SEEN];
        private final int[] hour = new int[MOST_SEEN];
        // By man: with whom it may have been, one bit a dog and one for nobody.
        private final int[] may = new int[MOST_MEN];
        private final int[] roomLeft = new int[MOST_DOGS];

        void add(int seenMan, int seenStreet, int seenHour) {
            if (count < MOST_SEEN) {
                man[count] = seenMan;
                street[count] = seenStreet;
                hour[count] = seenHour;
                count++;
            }
        }

        void look(Law law, Town town) {
            System.arraycopy(law.room, 0, roomLeft, 0, MOST_DOGS);
            for (int i = 0; i < law.men; i++) {
                may[i] = fits(law, town, i, NOBODY) ? 1 << NOBODY : 0;
                for (int dog = 0; dog < law.dogs; dog++) {
                    may[i] |= fits(law, town, i, dog) ? 1 << dog : 0;
                }
            }
        }

        /** Whether all that was seen of a man is so, if that company walked it. */
        private boolean fits(Law law, Town town, int ofMan, int company) {
            for (int i = 0; i < count; i++) {
                if (man[i] == ofMan && street[i] != streetWith(law, town, ofMan, company, hour[i])) {
                    return false;
                }
            }
            return true;
        }

        private static int streetWith(Law law, Town town, int ofMan, int company, int at) {
            if (!law.hasDog(company)) {
                return town.manStreet[ofMan];
            }
            int steps = law.rank[company] % 2 == 1 ? at : 0;
            return (town.dogStreet[company] + steps) % STREETS;
        }

        int ways(Law law) {
            return share(law, may, roomLeft, 0);
        }

        /** In how many ways the men from this one on can have been shared out. */
        private static int share(Law law, int[] may, int[] roomLeft, int next) {
            if (!law.hasMan(next)) {
                return 1;
            }
            int sum = (may[next] >> NOBODY & 1) == 1 ? share(law, may, roomLeft, next + 1) : 0;
            for (int dog = 0; dog < law.dogs; dog++) {
                if ((may[next] >> dog & 1) == 1 && roomLeft[dog] > 0) {
                    roomLeft[dog]--;
                    sum += share(law, may, roomLeft, next + 1);
                    roomLeft[dog]++;
                }
            }
            return sum;
        }

        int onlyCompany(Law law, int ofMan) {
            int all = may[ofMan];
            int found = NONE;
            for (int company = 0; company <= NOBODY; company++) {
                may[ofMan] = all & 1 << company;
                if (may[ofMan] != 0 && ways(law) > 0) {
                    if (found != NONE) {
                        return NONE;
                    }
                    found = company == NOBODY ? TOLD_NOBODY : company;
                }
            }
            return found;
        }
    }

    /** The play of a warden and a bachelor for the worth of streets. */
    private static final class Rest {
        static boolean holds(int row, int warden, int bachelor) {
            int wardenHas = wardens(row, warden, bachelor);
            int bachelorHas = bachelors(row, warden, bachelor);
            for (int other = 0; other < STREETS; other++) {
                if (wardens(row, other, bachelor) > wardenHas || bachelors(row, warden, other) > bachelorHas) {
                    return false;
                }
            }
            return true;
        }

        private static int wardens(int row, int warden, int bachelor) {
            return warden == bachelor ? worth(row, bachelor) : 0;
        }

        private static int bachelors(int row, int warden, int bachelor) {
            return warden == bachelor ? 0 : worth(row, bachelor);
        }

        private static int worth(int row, int street) {
            int left = row;
            for (int behind = street + 1; behind < STREETS; behind++) {
                left /= 10;
            }
            return left % 10;
        }
    }
}
