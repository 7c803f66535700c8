/** Courier lanes on a frozen river, with huts, wagers on the thaw, and a look ahead. */
public final class IceLanes {
    private static final int SECTIONS = 12;
    private static final int LANES = 3;
    private static final int PLACES = SECTIONS * LANES;
    private static final int MOST_ICE = 60;
    private static final int FIRST_ICE = 30;
    private static final int MOST_CRACKS = 9;
    private static final int ICE_OF_A_CRACK = 3;

    private static final int TABLE_DAYS = 14;
    private static final int HOURS_OF_A_DAY = 12;
    private static final int MOST_WARM = 9;
    private static final int FIRST_WARM = -2;
    private static final int HEALING_WARM = -3;

    private static final int MOST_COURIERS = 8;
    private static final int MOST_WEIGHT = 40;
    private static final int MOST_LETTERS = 20;
    private static final int MOST_STRENGTH = 20;
    private static final int STRENGTH_TO_GO = 10;
    private static final int STRENGTH_OF_A_REST = 1;
    /** On top of that of a rest. */
    private static final int STRENGTH_OF_A_HUT = 4;
    private static final int SKATER_PACE = 2;
    private static final int SLED_PACE = 1;

    private static final int RESTS = 0;
    private static final int GOES = 1;
    private static final int ARRIVED = 2;
    private static final int BROKE_IN = 3;

    private static final int MOST_WAGERS = 12;
    private static final int LAST_WAGER_DAY = 500;
    private static final int MOST_STAKE = 100;

    private static final int MOST_HOURS_TO_PASS = 200;
    private static final int HOURS_TO_ARRIVE = 150;
    private static final int HOURS_TO_THAW = 720;

    private static final int LAST_PLACE_QUESTION = 3;
    private static final int LAST_COURIER_QUESTION = 8;
    private static final int LAST_COUNT_QUESTION = 10;

    /** The answer where there is no lane, no hour and no day to tell. */
    private static final int NONE = -1;

    private static final long FIRST_DIGEST = 757;

    private final River river;
    /** Made once and used again: every look ahead runs on this copy of the river. */
    private final River ahead;
    private final Wagers wagers;

    public IceLanes() {
        river = new River();
        ahead = new River();
        wagers = new Wagers();
    }

    // ---- river

    public int setWarm(int day, int warm) throws IndexOutOfBoundsException, IllegalArgumentException {
        if (!isWithin(day, 0, TABLE_DAYS - 1)) {
            throw new IndexOutOfBoundsException("no such day of the table");
        }
        if (!isWithin(warm, -MOST_WARM, MOST_WARM)) {
            throw new IllegalArgumentException("it is never that warm or that cold");
        }
        int before = river.warm[day];
        river.warm[day] = warm;
        return before;
    }

    public int setIce(int section, int lane, int ice) throws IndexOutOfBoundsException, IllegalArgumentException {
        if (!isPlace(section, lane)) {
            throw new IndexOutOfBoundsException("no such place");
        }
        if (!isWithin(ice, 0, MOST_ICE)) {
            throw new IllegalArgumentException("ice is never that thick or that thin");
        }
        int place = placeOf(section, lane);
        int before = river.ice.thickness[place];
        river.ice.thickness[place] = ice;
        return before;
    }

    public int build(int section) throws IndexOutOfBoundsException {
        if (!isSection(section)) {
            throw new IndexOutOfBoundsException("no such section");
        }
        river.hut[section] = 1;
        return river.huts();
    }

    public int place(int section, int lane, int what) throws IndexOutOfBoundsException {
        if (!isPlace(section, lane)) {
            throw new IndexOutOfBoundsException("no such place");
        }
        if (!isWithin(what, 0, LAST_PLACE_QUESTION)) {
            throw new IndexOutOfBoundsException("no such question of a place");
        }
        switch (what) {
            case 0:
                return river.ice.thickness[placeOf(section, lane)];
            case 1:
                return river.ice.cracks[placeOf(section, lane)];
            case 2:
                return river.ice.mostBorneAt(section, lane);
            default:
                return river.couriers.notOutAt(section, lane);
        }
    }

    // ---- couriers

    public int come(int section, int lane, int weight, int letters, boolean skates)
            throws IndexOutOfBoundsException, IllegalArgumentException, IllegalStateException {
        if (!isPlace(section, lane)) {
            throw new IndexOutOfBoundsException("no such place");
        }
        if (!isWithin(weight, 1, MOST_WEIGHT) || !isWithin(letters, 0, MOST_LETTERS)) {
            throw new IllegalArgumentException("no courier has that weight or those letters");
        }
        if (river.couriers.number >= MOST_COURIERS) {
            throw new IllegalStateException("there are as many couriers as there can be");
        }
        if (!river.ice.holds(section, lane, weight + letters)) {
            throw new IllegalStateException("the place does not bear the weight and the letters");
        }
        return river.couriers.add(section, lane, weight, letters, skates ? SKATER_PACE : SLED_PACE);
    }

    public int send(int courier, int section) throws IndexOutOfBoundsException, IllegalStateException {
        if (!river.couriers.has(courier) || !isSection(section)) {
            throw new IndexOutOfBoundsException("no such courier or section");
        }
        if (river.couriers.state[courier] == BROKE_IN) {
            throw new IllegalStateException("this courier broke in");
        }
        river.couriers.goal[courier] = section;
        river.couriers.state[courier] = RESTS;
        return Math.abs(river.couriers.section[courier] - section);
    }

    public int load(int courier, int many)
            throws IndexOutOfBoundsException, IllegalArgumentException, IllegalStateException {
        if (!river.couriers.has(courier)) {
            throw new IndexOutOfBoundsException("no such courier");
        }
        if (many == 0 || !isWithin(many, -MOST_LETTERS, MOST_LETTERS)) {
            throw new IllegalArgumentException("not so many letters are given or taken at once");
        }
        if (river.couriers.state[courier] == BROKE_IN) {
            throw new IllegalStateException("this courier broke in");
        }
        int letters = river.couriers.letters[courier] + many;
        if (!isWithin(letters, 0, MOST_LETTERS)) {
            throw new IllegalStateException("nobody carries so many letters");
        }
        if (!river.holdsCourierWith(courier, letters)) {
            throw new IllegalStateException("the place would not bear it");
        }
        river.couriers.letters[courier] = letters;
        return letters;
    }

    public int courier(int courier, int what) throws IndexOutOfBoundsException {
        if (!river.couriers.has(courier) || !isWithin(what, 0, LAST_COURIER_QUESTION)) {
            throw new IndexOutOfBoundsException("no such courier, or no such question of one");
        }
        return river.couriers.tell(courier, what);
    }

    // ---- wagers

    public int wager(int day, int stake) throws IllegalArgumentException, IllegalStateException {
        if (!isWithin(day, 0, LAST_WAGER_DAY) || !isWithin(stake, 1, MOST_STAKE)) {
            throw new IllegalArgumentException("no wager is on that day or has that stake");
        }
        if (wagers.number >= MOST_WAGERS) {
            throw new IllegalStateException("there are as many wagers as there can be");
        }
        if (river.hasThawed()) {
            throw new IllegalStateException("the thaw has come");
        }
        return wagers.add(day, stake);
    }

    public int wins(int wager) throws IndexOutOfBoundsException {
        if (!wagers.has(wager)) {
            throw new IndexOutOfBoundsException("no such wager");
        }
        return winOf(wager);
    }

    // ---- hours

    public int pass(int hours) throws IllegalArgumentException {
        if (!isWithin(hours, 1, MOST_HOURS_TO_PASS)) {
            throw new IllegalArgumentException("not so many hours go by at once");
        }
        int arrivals = 0;
        for (int i = 0; i < hours; i++) {
            arrivals += river.spendHour();
        }
        return arrivals;
    }

    public int count(int what) throws IndexOutOfBoundsException {
        if (!isWithin(what, 0, LAST_COUNT_QUESTION)) {
            throw new IndexOutOfBoundsException("nothing such is counted");
        }
        return counted(what);
    }

    // ---- what would be

    public int bears(int from, int to) throws IndexOutOfBoundsException {
        if (!isSection(from) || !isSection(to)) {
            throw new IndexOutOfBoundsException("no such section");
        }
        return river.ice.mostBorneBetween(Math.min(from, to), Math.max(from, to));
    }

    public int arrives(int courier) throws IndexOutOfBoundsException {
        if (!river.couriers.has(courier)) {
            throw new IndexOutOfBoundsException("no such courier");
        }
        ahead.become(river);
        return ahead.hoursTillArrival(courier);
    }

    public int best(int courier) throws IndexOutOfBoundsException {
        if (!river.couriers.has(courier)) {
            throw new IndexOutOfBoundsException("no such courier");
        }
        // Each number is tried: fewer letters can crack less ice and so change the way, for the worse too.
        for (int letters = MOST_LETTERS; letters >= 0; letters--) {
            ahead.become(river);
            ahead.couriers.letters[courier] = letters;
            if (ahead.hoursTillArrival(courier) != NONE) {
                return letters;
            }
        }
        return NONE;
    }

    public int thaw() {
        if (river.hasThawed()) {
            return river.thawDay;
        }
        ahead.become(river);
        return ahead.dayOfThaw();
    }

    public double mean() {
        return (double) river.ice.inAll() / PLACES;
    }

    public long digest() {
        long d = FIRST_DIGEST;
        for (int what = 0; what <= LAST_COUNT_QUESTION; what++) {
            d = mixed(d, counted(what));
        }
        d = mixedWithRiver(d);
        d = mixedWithCouriers(d);
        return mixedWithWagers(d);
    }

    private int counted(int what) {
        switch (what) {
            case 0:
                return river.hour;
            case 1:
                return river.couriers.number;
            case 2:
                return river.couriers.numberWhose(GOES);
            case 3:
                return river.couriers.numberWhose(ARRIVED);
            case 4:
                return river.couriers.numberWhose(BROKE_IN);
            case 5:
                return river.ice.cracksInAll();
            case 6:
                return river.ice.placesOfOpenWater();
            case 7:
                return river.huts();
            case 8:
                return wagers.number;
            case 9:
                return wagers.allStakes();
            default:
                return river.thawDay;
        }
    }

    private int winOf(int wager) {
        return river.hasThawed() ? wagers.winOn(river.thawDay, wager) : 0;
    }

    private long mixedWithRiver(long digest) {
        long d = digest;
        for (int day = 0; day < TABLE_DAYS; day++) {
            d = mixed(d, river.warm[day]);
        }
        for (int place = 0; place < PLACES; place++) {
            d = mixed(d, river.ice.thickness[place]);
            d = mixed(d, river.ice.cracks[place]);
        }
        for (int section = 0; section < SECTIONS; section++) {
            d = mixed(d, river.hut[section]);
        }
        return d;
    }

    private long mixedWithCouriers(long digest) {
        long d = digest;
        for (int courier = 0; courier < river.couriers.number; courier++) {
            for (int what = 0; what <= LAST_COURIER_QUESTION; what++) {
                d = mixed(d, river.couriers.tell(courier, what));
            }
        }
        return d;
    }

    private long mixedWithWagers(long digest) {
        long d = digest;
        for (int wager = 0; wager < wagers.number; wager++) {
            d = mixed(d, wagers.day[wager]);
            d = mixed(d, wagers.stake[wager]);
            d = mixed(d, winOf(wager));
        }
        return d;
    }

    private static long mixed(long digest, int x) {
        return digest * 31 + x;
    }

    private static boolean isWithin(int x, int least, int most) {
        return least <= x && x <= most;
    }

    private static boolean isSection(int section) {
        return isWithin(section, 0, SECTIONS - 1);
    }

    private static boolean isPlace(int section, int lane) {
        return isSection(section) && isWithin(lane, 0, LANES - 1);
    }

    private static int placeOf(int section, int lane) {
        return section * LANES + lane;
    }

    /** The ice of all places with its cracks; the places stand section by section, lane by lane. */
    private static final class Ice {
        private final int[] thickness = new int[PLACES];
        private final int[] cracks = new int[PLACES];

        private Ice() {
            for (int place = 0; place < PLACES; place++) {
                thickness[place] = FIRST_ICE;
            }
        }

        private void become(Ice other) {
            System.arraycopy(other.thickness, 0, thickness, 0, PLACES);
            System.arraycopy(other.cracks, 0, cracks, 0, PLACES);
        }

        /** The ice less what its cracks take of it, which can be below 0. */
        private int soundness(int section, int lane) {
            int place = placeOf(section, lane);
            return thickness[place] - ICE_OF_A_CRACK * cracks[place];
        }

        private boolean holds(int section, int lane, int load) {
            return soundness(section, lane) >= load;
        }

        private int mostBorneAt(int section, int lane) {
            return Math.max(0, soundness(section, lane));
        }

        private int mostBorneBetween(int first, int last) {
            int left = mostBorneAt(first, 0);
            int middle = mostBorneAt(first, 1);
            int right = mostBorneAt(first, 2);
            for (int section = first + 1; section <= last; section++) {
                int leftHalf = Math.max(left, middle);
                int rightHalf = Math.max(middle, right);
                left = Math.min(leftHalf, mostBorneAt(section, 0));
                middle = Math.min(Math.max(leftHalf, rightHalf), mostBorneAt(section, 1));
                right = Math.min(rightHalf, mostBorneAt(section, 2));
            }
            return Math.max(Math.max(left, middle), right);
        }

        private void meetDay(int warm) {
            int more = warm < 0 ? -warm : -2 * warm;
            for (int place = 0; place < PLACES; place++) {
                thickness[place] = Math.max(0, Math.min(MOST_ICE, thickness[place] + more));
                if (warm <= HEALING_WARM) {
                    cracks[place] = Math.max(0, cracks[place] - 1);
                }
            }
        }

        /** Puts a load on a place that bears it; returns whether the place bears it then, too. */
        private boolean withstands(int section, int lane, int load) {
            int place = placeOf(section, lane);
            if (soundness(section, lane) < 2 * load) {
                cracks[place] = Math.min(MOST_CRACKS, cracks[place] + 1);
            }
            if (soundness(section, lane) >= load) {
                return true;
            }
            thickness[place] = 0;
            return false;
        }

        /** Of the given lane and those beside it, the soundest that bears the load, or NONE. */
        private int laneFor(int section, int lane, int load) {
            int chosen = NONE;
            int soundest = 0;
            int last = Math.min(LANES - 1, lane + 1);
            for (int near = Math.max(0, lane - 1); near <= last; near++) {
                int sound = soundness(section, near);
                if (sound >= load && (chosen == NONE || sound > soundest)) {
                    chosen = near;
                    soundest = sound;
                }
            }
            return chosen;
        }

        private boolean isOpenAcross() {
            for (int section = 0; section < SECTIONS; section++) {
                int across = 0;
                for (int lane = 0; lane < LANES; lane++) {
                    across += thickness[placeOf(section, lane)];
                }
                if (across == 0) {
                    return true;
                }
            }
            return false;
        }

        private int placesOfOpenWater() {
            int many = 0;
            for (int place = 0; place < PLACES; place++) {
                if (thickness[place] == 0) {
                    many++;
                }
            }
            return many;
        }

        private int inAll() {
            int sum = 0;
            for (int place = 0; place < PLACES; place++) {
                sum += thickness[place];
            }
            return sum;
        }

        private int cracksInAll() {
            int sum = 0;
            for (int place = 0; place < PLACES; place++) {
                sum += cracks[place];
            }
            return sum;
        }
    }

    /** The couriers in the order of their coming, a row for each thing that is known of them. */
    private static final class Couriers {
        private int number;
        private final int[] weight = new int[MOST_COURIERS];
        private final int[] letters = new int[MOST_COURIERS];
        private final int[] strength = new int[MOST_COURIERS];
        private final int[] section = new int[MOST_COURIERS];
        private final int[] lane = new int[MOST_COURIERS];
        private final int[] goal = new int[MOST_COURIERS];
        private final int[] state = new int[MOST_COURIERS];
        private final int[] steps = new int[MOST_COURIERS];
        private final int[] pace = new int[MOST_COURIERS];

        private void become(Couriers other) {
            number = other.number;
            System.arraycopy(other.weight, 0, weight, 0, MOST_COURIERS);
            System.arraycopy(other.letters, 0, letters, 0, MOST_COURIERS);
            System.arraycopy(other.strength, 0, strength, 0, MOST_COURIERS);
            System.arraycopy(other.section, 0, section, 0, MOST_COURIERS);
            System.arraycopy(other.lane, 0, lane, 0, MOST_COURIERS);
            System.arraycopy(other.goal, 0, goal, 0, MOST_COURIERS);
            System.arraycopy(other.state, 0, state, 0, MOST_COURIERS);
            System.arraycopy(other.steps, 0, steps, 0, MOST_COURIERS);
            System.arraycopy(other.pace, 0, pace, 0, MOST_COURIERS);
        }

        private boolean has(int courier) {
            return isWithin(courier, 0, number - 1);
        }

        /** Adds a courier who rests at the goal, or returns NONE if there is no room for one. */
        private int add(int atSection, int atLane, int itsWeight, int itsLetters, int itsPace) {
            if (number >= MOST_COURIERS) {
                return NONE;
            }
            int courier = number;
            weight[courier] = itsWeight;
            letters[courier] = itsLetters;
            strength[courier] = MOST_STRENGTH;
            section[courier] = atSection;
            lane[courier] = atLane;
            goal[courier] = atSection;
            state[courier] = RESTS;
            steps[courier] = 0;
            pace[courier] = itsPace;
            number++;
            return courier;
        }

        private int tell(int courier, int what) {
            switch (what) {
                case 0:
                    return weight[courier];
                case 1:
                    return letters[courier];
                case 2:
                    return strength[courier];
                case 3:
                    return section[courier];
                case 4:
                    return lane[courier];
                case 5:
                    return goal[courier];
                case 6:
                    return state[courier];
                case 7:
                    return steps[courier];
                default:
                    return pace[courier] == SKATER_PACE ? 1 : 0;
            }
        }

        private int loadOf(int courier) {
            return weight[courier] + letters[courier];
        }

        private boolean isAtGoal(int courier) {
            return section[courier] == goal[courier];
        }

        private int nextSection(int courier) {
            if (section[courier] < goal[courier]) {
                return section[courier] + 1;
            }
            return isAtGoal(courier) ? goal[courier] : section[courier] - 1;
        }

        private int numberWhose(int itsState) {
            int many = 0;
            for (int courier = 0; courier < number; courier++) {
                if (state[courier] == itsState) {
                    many++;
                }
            }
            return many;
        }

        private int notOutAt(int atSection, int atLane) {
            int many = 0;
            for (int courier = 0; courier < number; courier++) {
                boolean isThere = section[courier] == atSection && lane[courier] == atLane;
                if (isThere && state[courier] != BROKE_IN) {
                    many++;
                }
            }
            return many;
        }
    }

    /** All that an hour reads and changes, so that a copy can be let run ahead. */
    private static final class River {
        private int hour;
        private int thawDay = NONE;
        private final int[] warm = new int[TABLE_DAYS];
        /** 1 for each section with a hut, 0 for the others. */
        private final int[] hut = new int[SECTIONS];
        private final Ice ice = new Ice();
        private final Couriers couriers = new Couriers();

        private River() {
            for (int day = 0; day < TABLE_DAYS; day++) {
                warm[day] = FIRST_WARM;
            }
        }

        private void become(River other) {
            hour = other.hour;
            thawDay = other.thawDay;
            System.arraycopy(other.warm, 0, warm, 0, TABLE_DAYS);
            System.arraycopy(other.hut, 0, hut, 0, SECTIONS);
            ice.become(other.ice);
            couriers.become(other.couriers);
        }

        private int huts() {
            int many = 0;
            for (int section = 0; section < SECTIONS; section++) {
                many += hut[section];
            }
            return many;
        }

        private boolean hasThawed() {
            return thawDay != NONE;
        }

        private boolean holdsCourierWith(int courier, int letters) {
            int load = couriers.weight[courier] + letters;
            return ice.holds(couriers.section[courier], couriers.lane[courier], load);
        }

        /** Lets one hour go by; returns how many couriers arrived in it. */
        private int spendHour() {
            int day = hour / HOURS_OF_A_DAY;
            if (hour % HOURS_OF_A_DAY == 0) {
                // floorMod stays in the table even if far too many calls made the hour wrap around.
                ice.meetDay(warm[Math.floorMod(day, TABLE_DAYS)]);
            }
            if (!hasThawed() && ice.isOpenAcross()) {
                thawDay = day;
            }
            int arrivals = 0;
            for (int courier = 0; courier < couriers.number; courier++) {
                if (travels(courier)) {
                    arrivals++;
                }
            }
            for (int courier = 0; courier < couriers.number; courier++) {
                rest(courier);
            }
            hour++;
            return arrivals;
        }

        /** Takes the steps of an hour; returns whether the courier arrived with them. */
        private boolean travels(int courier) {
            if (couriers.state[courier] != GOES) {
                return false;
            }
            for (int i = 0; i < couriers.pace[courier] && couriers.state[courier] == GOES; i++) {
                step(courier);
            }
            return couriers.state[courier] == ARRIVED;
        }

        private void step(int courier) {
            int load = couriers.loadOf(courier);
            int section = couriers.nextSection(courier);
            int lane = ice.laneFor(section, couriers.lane[courier], load);
            if (couriers.strength[courier] == 0 || lane == NONE) {
                couriers.state[courier] = RESTS;
                return;
            }
            couriers.section[courier] = section;
            couriers.lane[courier] = lane;
            couriers.strength[courier]--;
            couriers.steps[courier]++;
            if (!ice.withstands(section, lane, load)) {
                couriers.state[courier] = BROKE_IN;
                couriers.letters[courier] = 0;
            } else if (couriers.isAtGoal(courier)) {
                couriers.state[courier] = ARRIVED;
            }
        }

        private void rest(int courier) {
            if (couriers.state[courier] != RESTS) {
                return;
            }
            boolean isAtHut = hut[couriers.section[courier]] == 1;
            int more = STRENGTH_OF_A_REST + (isAtHut ? STRENGTH_OF_A_HUT : 0);
            couriers.strength[courier] = Math.min(MOST_STRENGTH, couriers.strength[courier] + more);
            if (!couriers.isAtGoal(courier) && couriers.strength[courier] >= STRENGTH_TO_GO) {
                couriers.state[courier] = GOES;
            }
        }

        /** Lets hours go by until the courier arrives; returns how many, or NONE. */
        private int hoursTillArrival(int courier) {
            if (couriers.state[courier] == BROKE_IN) {
                return NONE;
            }
            if (couriers.isAtGoal(courier)) {
                return 0;
            }
            for (int hours = 1; hours <= HOURS_TO_ARRIVE; hours++) {
                spendHour();
                if (couriers.state[courier] == ARRIVED) {
                    return hours;
                }
                if (couriers.state[courier] == BROKE_IN) {
                    return NONE;
                }
            }
            return NONE;
        }

        /** Lets hours go by until the thaw comes; returns its day, or NONE. */
        private int dayOfThaw() {
            for (int i = 0; i < HOURS_TO_THAW && !hasThawed(); i++) {
                spendHour();
            }
            return thawDay;
        }
    }

    /** The wagers in the order of their making. */
    private static final class Wagers {
        private int number;
        private final int[] day = new int[MOST_WAGERS];
        private final int[] stake = new int[MOST_WAGERS];

        private boolean has(int wager) {
            return isWithin(wager, 0, number - 1);
        }

        /** Adds a wager, or returns NONE if there is no room for one. */
        private int add(int onDay, int itsStake) {
            if (number >= MOST_WAGERS) {
                return NONE;
            }
            int wager = number;
            day[wager] = onDay;
            stake[wager] = itsStake;
            number++;
            return wager;
        }

        private int allStakes() {
            int sum = 0;
            for (int wager = 0; wager < number; wager++) {
                sum += stake[wager];
            }
            return sum;
        }

        private int daysBeside(int thawDay, int wager) {
            return Math.abs(day[wager] - thawDay);
        }

        /** What a wager wins if the thaw is on this day: no wager is made behind the thaw, so this stays. */
        private int winOn(int thawDay, int wager) {
            int own = daysBeside(thawDay, wager);
            int winners = 0;
            for (int other = 0; other < number; other++) {
                int beside = daysBeside(thawDay, other);
                if (beside < own) {
                    return 0;
                }
                if (beside == own) {
                    winners++;
                }
            }
            return winners > 0 ? allStakes() / winners : 0;
        }
    }
}
