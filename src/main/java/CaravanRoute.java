import java.util.NoSuchElementException;

/**
 * A caravan of camels on a desert route. The class keeps one caravan as it is now, rows of earlier
 * ones for undo and the snapshots, and one more to try things out on; all are made in the
 * constructor and used again.
 */
public final class CaravanRoute {
    private static final int NONE = -1;
    private static final int INPUT_LIMIT = 700;
    private static final int APPENDED_BYTES = 20;
    private static final int ROUTE_LEAST = 10;
    private static final int ROUTE_MOST = 999;
    private static final int LAST_DAY = 200;
    private static final int LAST_STORM_QUESTION = 999;
    private static final int LONGEST_PREDICTION = 50;
    private static final int CAMEL_LIMIT = 10;
    private static final int WELL_LIMIT = 8;
    private static final int STORM_LIMIT = 6;
    private static final int LOAD_LIMIT = 20;
    private static final int WEIGHT_MOST = 99;
    private static final int VALUE_MOST = 99;
    private static final int KILOGRAMS_FOR_STRENGTH = 20;
    private static final int KILOGRAMS_FOR_SPEED = 10;
    private static final int KILOGRAMS_FOR_LITRE = 25;
    private static final int SPEED_LEAST = 5;
    private static final int NEED_LEAST = 5;
    private static final int STRAIN_MOST = 60;
    private static final int STRAIN_RELIEF = 10;
    private static final int LAME_DAYS_ADDED = 3;
    private static final int DRY_DAYS_OF_DEATH = 3;
    private static final int UNDO_LIMIT = 8;
    private static final int SLOTS = 2;
    // Ten lines of at most "*90/90!" with a line feed, and twenty loads of at most ",19".
    private static final int WRITTEN_LIMIT = CAMEL_LIMIT * 8 + LOAD_LIMIT * 3;
    private static final String FIRST_TEXT = "route 200;camel 40 3 60;camel 30 5 80;camel 50 2 40;well 30 100 10;well 90 50 5;storm 2 3 4;load 30 20 on 1;load 45 50 on 1;load 15 9;";

    private final Input input;
    private int errorFound;
    private final Caravan now;
    private final Caravan trial;
    private final History history;
    private final Caravan[] snapshots;
    private final boolean[] isKept;
    private final int[] shares;
    private final Writing writing;

    public CaravanRoute() {
        input = new Input();
        input.takeText(FIRST_TEXT);
        errorFound = input.findError();
        Plan plan = new Plan();
        plan.copyFrom(input.draft.plan);
        now = new Caravan(plan);
        now.copyFrom(input.draft);
        trial = new Caravan(plan);
        history = new History(plan);
        snapshots = new Caravan[SLOTS];
        for (int slot = 0; slot < SLOTS; slot++) {
            snapshots[slot] = new Caravan(plan);
        }
        isKept = new boolean[SLOTS];
        shares = new int[CAMEL_LIMIT];
        writing = new Writing();
    }

    // ---- input

    public int append(int a, int b, int c, int d, int e) throws IllegalStateException {
        if (input.length + APPENDED_BYTES > INPUT_LIMIT) {
            throw new IllegalStateException("the input buffer has no room for 20 bytes");
        }
        input.takeFour(a);
        input.takeFour(b);
        input.takeFour(c);
        input.takeFour(d);
        input.takeFour(e);
        return input.length;
    }

    public int shorten(int length) throws IllegalArgumentException {
        if (length < 0 || length > input.length) {
            throw new IllegalArgumentException("the new length is not within the input buffer");
        }
        input.length = length;
        return length;
    }

    public int load() throws IllegalArgumentException {
        errorFound = input.findError();
        if (errorFound != NONE) {
            throw new IllegalArgumentException("the text has an error");
        }
        now.plan.copyFrom(input.draft.plan);
        now.copyFrom(input.draft);
        history.forget();
        for (int slot = 0; slot < SLOTS; slot++) {
            isKept[slot] = false;
        }
        return now.plan.camelCount;
    }

    public boolean hasError() {
        return errorFound != NONE;
    }

    public int errorOffset() throws NoSuchElementException {
        if (errorFound == NONE) {
            throw new NoSuchElementException("the latest load found no error");
        }
        return errorFound;
    }

    // ---- the route

    public int length() {
        return now.plan.length;
    }

    public int kilometre() {
        return now.kilometre;
    }

    public boolean hasArrived() {
        return now.isAtEnd();
    }

    public int day() {
        return now.day;
    }

    public int stormOn(int day) throws IllegalArgumentException {
        if (day < 0 || day > LAST_STORM_QUESTION) {
            throw new IllegalArgumentException("the day is not 0 to 999");
        }
        return now.plan.greatestStorm(day);
    }

    public boolean isStopping() {
        return now.stopping;
    }

    // ---- wells

    public int wellCount() {
        return now.plan.wellCount;
    }

    public int wellKilometre(int well) throws IndexOutOfBoundsException {
        requireWell(well);
        return now.plan.wellPlace[well];
    }

    public int wellLevel(int well) throws IndexOutOfBoundsException {
        requireWell(well);
        return now.level[well];
    }

    public int wellCapacity(int well) throws IndexOutOfBoundsException {
        requireWell(well);
        return now.plan.capacity[well];
    }

    private void requireWell(int well) {
        if (well < 0 || well >= now.plan.wellCount) {
            throw new IndexOutOfBoundsException("there is no such well");
        }
    }

    public int wellHere() throws NoSuchElementException {
        int well = now.plan.wellAt(now.kilometre);
        if (well == NONE) {
            throw new NoSuchElementException("there is no well here");
        }
        return well;
    }

    public int nextWell() throws NoSuchElementException {
        int well = now.plan.firstWellBehind(now.kilometre);
        if (well == NONE) {
            throw new NoSuchElementException("there is no well on the way");
        }
        return well;
    }

    public int drunk() {
        return now.drunk;
    }

    // ---- camels

    public int camelCount() {
        return now.plan.camelCount;
    }

    public int livingCamels() {
        return now.countLiving();
    }

    public int leader() {
        return now.leader;
    }

    private void requireCamel(int camel) {
        if (!now.plan.hasCamel(camel)) {
            throw new IndexOutOfBoundsException("there is no such camel");
        }
    }

    public boolean isDead(int camel) throws IndexOutOfBoundsException {
        requireCamel(camel);
        return !now.isLiving(camel);
    }

    public int pace(int camel) throws IndexOutOfBoundsException {
        requireCamel(camel);
        return now.plan.pace[camel];
    }

    public int speed(int camel) throws IndexOutOfBoundsException {
        requireCamel(camel);
        return now.speedOf(camel);
    }

    public int water(int camel) throws IndexOutOfBoundsException {
        requireCamel(camel);
        return now.water[camel];
    }

    public int tank(int camel) throws IndexOutOfBoundsException {
        requireCamel(camel);
        return now.plan.tank[camel];
    }

    public int strain(int camel) throws IndexOutOfBoundsException {
        requireCamel(camel);
        return now.strain[camel];
    }

    public int lameDays(int camel) throws IndexOutOfBoundsException {
        requireCamel(camel);
        return now.lameDays[camel];
    }

    public int dryDays(int camel) throws IndexOutOfBoundsException {
        requireCamel(camel);
        return now.dryDays[camel];
    }

    public int carried(int camel) throws IndexOutOfBoundsException {
        requireCamel(camel);
        return now.carried[camel];
    }

    public int freeWeight(int camel) throws IndexOutOfBoundsException {
        requireCamel(camel);
        return now.freeOn(camel);
    }

    public int thirstiest() throws NoSuchElementException {
        int camel = now.leastWatered();
        if (camel == NONE) {
            throw new NoSuchElementException("no camel is alive");
        }
        return camel;
    }

    public int fastest() throws NoSuchElementException {
        int camel = now.quickest();
        if (camel == NONE) {
            throw new NoSuchElementException("no camel is alive");
        }
        return camel;
    }

    // ---- loads

    public int loadCount() {
        return now.loadCount;
    }

    private void requireLoad(int load) {
        if (!now.hasLoad(load)) {
            throw new IndexOutOfBoundsException("there is no such load");
        }
    }

    public int weightOf(int load) throws IndexOutOfBoundsException {
        requireLoad(load);
        return now.weight[load];
    }

    public int valueOf(int load) throws IndexOutOfBoundsException {
        requireLoad(load);
        return now.value[load];
    }

    public boolean isCarried(int load) throws IndexOutOfBoundsException {
        requireLoad(load);
        return now.carrier[load] != NONE;
    }

    public int carrierOf(int load) throws IndexOutOfBoundsException, NoSuchElementException {
        requireLoad(load);
        if (now.carrier[load] == NONE) {
            throw new NoSuchElementException("the load lies at a kilometre");
        }
        return now.carrier[load];
    }

    public int placeOf(int load) throws IndexOutOfBoundsException {
        requireLoad(load);
        return now.whereIs(load);
    }

    public int carriedValue() {
        int sum = 0;
        for (int load = 0; load < now.loadCount; load++) {
            if (now.carrier[load] != NONE) {
                sum += now.value[load];
            }
        }
        return sum;
    }

    public double meanWater() {
        int living = now.countLiving();
        if (living == 0) {
            return 0.0;
        }
        int sum = 0;
        for (int camel = 0; camel < now.plan.camelCount; camel++) {
            if (now.isLiving(camel)) {
                sum += now.water[camel];
            }
        }
        return (double) sum / (double) living;
    }

    public float progress() {
        if (now.plan.length == 0) {
            return 0.0f;
        }
        return (float) now.kilometre / (float) now.plan.length;
    }

    // ---- predictions

    public int distanceToday() {
        return now.distanceNow();
    }

    public int needToday(int camel) throws IndexOutOfBoundsException {
        requireCamel(camel);
        if (!now.isLiving(camel)) {
            return 0;
        }
        return now.needIn(camel, now.plan.greatestStorm(now.day));
    }

    public int livingAfter(int days) throws IllegalArgumentException {
        if (days < 0 || days > LONGEST_PREDICTION) {
            throw new IllegalArgumentException("the days are not 0 to 50");
        }
        trial.copyFrom(now);
        for (int i = 0; i < days && trial.canTravel(); i++) {
            trial.passTravelDay();
        }
        return trial.countLiving();
    }

    public int daysToArrival() throws NoSuchElementException {
        trial.copyFrom(now);
        for (int i = 0; i < LAST_DAY && trial.canTravel(); i++) {
            trial.passTravelDay();
        }
        if (!trial.isAtEnd()) {
            throw new NoSuchElementException("the caravan does not arrive in this way");
        }
        return trial.day - now.day;
    }

    public int wouldDrink(int camel) throws IndexOutOfBoundsException, IllegalStateException {
        requireCamel(camel);
        int well = now.plan.wellAt(now.kilometre);
        if (well == NONE) {
            throw new IllegalStateException("the caravan is not at a well");
        }
        now.shareOut(well, shares);
        return now.isLiving(camel) ? shares[camel] : 0;
    }

    // ---- changes

    public int travel() throws IllegalStateException {
        if (!now.canTravel()) {
            throw new IllegalStateException("the caravan cannot travel any more");
        }
        history.remember(now);
        return now.passTravelDay();
    }

    public int rest() throws IllegalStateException {
        if (!now.canRest()) {
            throw new IllegalStateException("the caravan cannot rest any more");
        }
        history.remember(now);
        now.passRestDay();
        return now.countLiving();
    }

    public int drink() throws IllegalStateException {
        int well = now.plan.wellAt(now.kilometre);
        if (well == NONE) {
            throw new IllegalStateException("the caravan is not at a well");
        }
        history.remember(now);
        now.shareOut(well, shares);
        return now.takeShares(well, shares);
    }

    public int setLeader(int camel) throws IndexOutOfBoundsException, IllegalStateException {
        requireCamel(camel);
        if (!now.isLiving(camel)) {
            throw new IllegalStateException("the camel is dead");
        }
        history.remember(now);
        int previous = now.leader;
        now.leader = camel;
        return previous;
    }

    public boolean setStopping(boolean isOn) {
        history.remember(now);
        boolean wasOn = now.stopping;
        now.stopping = isOn;
        return wasOn;
    }

    public int putOn(int load, int camel) throws IndexOutOfBoundsException, IllegalStateException {
        requireLoad(load);
        requireCamel(camel);
        if (!now.isLiving(camel) || now.carrier[load] == camel) {
            throw new IllegalStateException("the camel is dead or carries this load already");
        }
        if (now.whereIs(load) != now.kilometre) {
            throw new IllegalStateException("the load is not here");
        }
        if (now.weight[load] > now.freeOn(camel)) {
            throw new IllegalStateException("the load is too heavy in addition");
        }
        history.remember(now);
        now.layDown(load);
        now.hangOn(load, camel);
        return now.freeOn(camel);
    }

    public int takeOff(int load) throws IndexOutOfBoundsException, IllegalStateException {
        requireLoad(load);
        int camel = now.carrier[load];
        if (camel == NONE) {
            throw new IllegalStateException("no camel carries the load");
        }
        history.remember(now);
        now.layDown(load);
        return camel;
    }

    public int addLoad(int weight, int value)
            throws IllegalArgumentException, IllegalStateException {
        if (weight < 1 || weight > WEIGHT_MOST || value < 1 || value > VALUE_MOST) {
            throw new IllegalArgumentException("the weight or the value is not 1 to 99");
        }
        if (now.loadCount >= LOAD_LIMIT) {
            throw new IllegalStateException("there are 20 loads");
        }
        history.remember(now);
        return now.bringLoad(weight, value);
    }

    public int undo() throws IllegalStateException {
        if (history.count == 0) {
            throw new IllegalStateException("there is nothing to undo");
        }
        history.takeBack(now);
        return history.count;
    }

    private void requireSlot(int slot) {
        if (slot < 0 || slot >= SLOTS) {
            throw new IndexOutOfBoundsException("there is no such slot");
        }
    }

    public int saveSnapshot(int slot) throws IndexOutOfBoundsException {
        requireSlot(slot);
        snapshots[slot].copyFrom(now);
        isKept[slot] = true;
        return now.kilometre;
    }

    public int restoreSnapshot(int slot) throws IndexOutOfBoundsException, NoSuchElementException {
        requireSlot(slot);
        if (!isKept[slot]) {
            throw new NoSuchElementException("the slot is empty");
        }
        history.remember(now);
        now.copyFrom(snapshots[slot]);
        return now.kilometre;
    }

    // ---- writing

    public int writeCamels() {
        writing.writeAll(now);
        return writing.length;
    }

    public int writtenByte(int index) throws IndexOutOfBoundsException {
        if (index < 0 || index >= writing.length) {
            throw new IndexOutOfBoundsException("there is no such byte");
        }
        return writing.bytes[index];
    }

    /** What a text fixes for good: no change touches it, so undo and snapshots need no copy. */
    private static final class Plan {
        int length;
        int camelCount;
        final int[] pace = new int[CAMEL_LIMIT];
        final int[] strength = new int[CAMEL_LIMIT];
        final int[] tank = new int[CAMEL_LIMIT];
        int wellCount;
        final int[] wellPlace = new int[WELL_LIMIT];
        final int[] capacity = new int[WELL_LIMIT];
        final int[] refill = new int[WELL_LIMIT];
        int stormCount;
        final int[] stormFirst = new int[STORM_LIMIT];
        final int[] stormLast = new int[STORM_LIMIT];
        final int[] stormStrength = new int[STORM_LIMIT];

        void clear(int newLength) {
            length = newLength;
            camelCount = 0;
            wellCount = 0;
            stormCount = 0;
        }

        void copyFrom(Plan other) {
            length = other.length;
            camelCount = other.camelCount;
            System.arraycopy(other.pace, 0, pace, 0, CAMEL_LIMIT);
            System.arraycopy(other.strength, 0, strength, 0, CAMEL_LIMIT);
            System.arraycopy(other.tank, 0, tank, 0, CAMEL_LIMIT);
            wellCount = other.wellCount;
            System.arraycopy(other.wellPlace, 0, wellPlace, 0, WELL_LIMIT);
            System.arraycopy(other.capacity, 0, capacity, 0, WELL_LIMIT);
            System.arraycopy(other.refill, 0, refill, 0, WELL_LIMIT);
            stormCount = other.stormCount;
            System.arraycopy(other.stormFirst, 0, stormFirst, 0, STORM_LIMIT);
            System.arraycopy(other.stormLast, 0, stormLast, 0, STORM_LIMIT);
            System.arraycopy(other.stormStrength, 0, stormStrength, 0, STORM_LIMIT);
        }

        boolean hasCamel(int camel) {
            return camel >= 0 && camel < camelCount;
        }

        void addCamel(int itsPace, int itsStrength, int itsTank) {
            if (camelCount < CAMEL_LIMIT) {
                pace[camelCount] = itsPace;
                strength[camelCount] = itsStrength;
                tank[camelCount] = itsTank;
                camelCount++;
            }
        }

        void addWell(int itsPlace, int itsCapacity, int itsRefill) {
            if (wellCount < WELL_LIMIT) {
                wellPlace[wellCount] = itsPlace;
                capacity[wellCount] = itsCapacity;
                refill[wellCount] = itsRefill;
                wellCount++;
            }
        }

        void addStorm(int itsFirst, int itsLast, int itsStrength) {
            if (stormCount < STORM_LIMIT) {
                stormFirst[stormCount] = itsFirst;
                stormLast[stormCount] = itsLast;
                stormStrength[stormCount] = itsStrength;
                stormCount++;
            }
        }

        int greatestStorm(int day) {
            int greatest = 0;
            for (int storm = 0; storm < stormCount; storm++) {
                if (stormFirst[storm] <= day && day <= stormLast[storm]) {
                    greatest = Math.max(greatest, stormStrength[storm]);
                }
            }
            return greatest;
        }

        int wellAt(int kilometre) {
            for (int well = 0; well < wellCount; well++) {
                if (wellPlace[well] == kilometre) {
                    return well;
                }
            }
            return NONE;
        }

        int firstWellBehind(int kilometre) {
            int first = NONE;
            int place = ROUTE_MOST + 1;
            for (int well = 0; well < wellCount; well++) {
                if (wellPlace[well] > kilometre && wellPlace[well] < place) {
                    first = well;
                    place = wellPlace[well];
                }
            }
            return first;
        }
    }

    /** Everything that changes on the way: what undo and snapshots restore. */
    private static final class Caravan {
        final Plan plan;
        int kilometre;
        int day;
        boolean stopping;
        int leader;
        int drunk;
        final int[] water = new int[CAMEL_LIMIT];
        final int[] strain = new int[CAMEL_LIMIT];
        final int[] lameDays = new int[CAMEL_LIMIT];
        final int[] dryDays = new int[CAMEL_LIMIT];
        final int[] carried = new int[CAMEL_LIMIT];
        final int[] level = new int[WELL_LIMIT];
        int loadCount;
        final int[] weight = new int[LOAD_LIMIT];
        final int[] value = new int[LOAD_LIMIT];
        final int[] carrier = new int[LOAD_LIMIT];
        final int[] place = new int[LOAD_LIMIT];

        Caravan(Plan plan) {
            this.plan = plan;
        }

        void copyFrom(Caravan other) {
            kilometre = other.kilometre;
            day = other.day;
            stopping = other.stopping;
            leader = other.leader;
            drunk = other.drunk;
            System.arraycopy(other.water, 0, water, 0, CAMEL_LIMIT);
            System.arraycopy(other.strain, 0, strain, 0, CAMEL_LIMIT);
            System.arraycopy(other.lameDays, 0, lameDays, 0, CAMEL_LIMIT);
            System.arraycopy(other.dryDays, 0, dryDays, 0, CAMEL_LIMIT);
            System.arraycopy(other.carried, 0, carried, 0, CAMEL_LIMIT);
            System.arraycopy(other.level, 0, level, 0, WELL_LIMIT);
            loadCount = other.loadCount;
            System.arraycopy(other.weight, 0, weight, 0, LOAD_LIMIT);
            System.arraycopy(other.value, 0, value, 0, LOAD_LIMIT);
            System.arraycopy(other.carrier, 0, carrier, 0, LOAD_LIMIT);
            System.arraycopy(other.place, 0, place, 0, LOAD_LIMIT);
        }

        /** Brings camels and wells to their first state; loads come after this. */
        void setOut() {
            kilometre = 0;
            day = 0;
            stopping = false;
            leader = 0;
            drunk = 0;
            loadCount = 0;
            for (int camel = 0; camel < plan.camelCount; camel++) {
                water[camel] = plan.tank[camel];
                strain[camel] = 0;
                lameDays[camel] = 0;
                dryDays[camel] = 0;
                carried[camel] = 0;
            }
            for (int well = 0; well < plan.wellCount; well++) {
                level[well] = plan.capacity[well];
            }
        }

        boolean isAtEnd() {
            return kilometre >= plan.length;
        }

        boolean canRest() {
            return day < LAST_DAY && countLiving() > 0;
        }

        boolean canTravel() {
            return !isAtEnd() && canRest();
        }

        boolean isLiving(int camel) {
            return plan.hasCamel(camel) && dryDays[camel] < DRY_DAYS_OF_DEATH;
        }

        int countLiving() {
            int count = 0;
            for (int camel = 0; camel < plan.camelCount; camel++) {
                if (isLiving(camel)) {
                    count++;
                }
            }
            return count;
        }

        int leastWatered() {
            int best = NONE;
            for (int camel = 0; camel < plan.camelCount; camel++) {
                if (isLiving(camel) && (best == NONE || water[camel] < water[best])) {
                    best = camel;
                }
            }
            return best;
        }

        int quickest() {
            int best = NONE;
            int bestSpeed = 0;
            for (int camel = 0; camel < plan.camelCount; camel++) {
                if (isLiving(camel) && speedOf(camel) > bestSpeed) {
                    best = camel;
                    bestSpeed = speedOf(camel);
                }
            }
            return best;
        }

        int speedOf(int camel) {
            if (!plan.hasCamel(camel)) {
                return SPEED_LEAST;
            }
            int pace = lameDays[camel] > 0 ? plan.pace[camel] / 2 : plan.pace[camel];
            return Math.max(SPEED_LEAST, pace - carried[camel] / KILOGRAMS_FOR_SPEED);
        }

        /** What it can carry in addition: nothing if there is no such camel. */
        int freeOn(int camel) {
            if (!plan.hasCamel(camel)) {
                return 0;
            }
            return plan.strength[camel] * KILOGRAMS_FOR_STRENGTH - carried[camel];
        }

        boolean hasLoad(int load) {
            return load >= 0 && load < loadCount;
        }

        int whereIs(int load) {
            if (!hasLoad(load)) {
                return NONE;
            }
            return carrier[load] == NONE ? place[load] : kilometre;
        }

        int bringLoad(int itsWeight, int itsValue) {
            if (loadCount >= LOAD_LIMIT) {
                return NONE;
            }
            int load = loadCount;
            weight[load] = itsWeight;
            value[load] = itsValue;
            carrier[load] = NONE;
            place[load] = kilometre;
            loadCount++;
            return load;
        }

        void hangOn(int load, int camel) {
            if (hasLoad(load) && plan.hasCamel(camel)) {
                carrier[load] = camel;
                carried[camel] += weight[load];
            }
        }

        void layDown(int load) {
            if (hasLoad(load)) {
                int camel = carrier[load];
                if (plan.hasCamel(camel)) {
                    carried[camel] -= weight[load];
                }
                carrier[load] = NONE;
                place[load] = kilometre;
            }
        }

        int needIn(int camel, int storm) {
            if (!plan.hasCamel(camel)) {
                return 0;
            }
            return NEED_LEAST + carried[camel] / KILOGRAMS_FOR_LITRE + storm;
        }

        int distanceNow() {
            if (countLiving() == 0) {
                return 0;
            }
            int distance = speedOf(leader) * (10 - plan.greatestStorm(day)) / 10;
            distance = Math.min(distance, plan.length - kilometre);
            int well = plan.firstWellBehind(kilometre);
            if (stopping && well != NONE) {
                distance = Math.min(distance, plan.wellPlace[well] - kilometre);
            }
            return distance;
        }

        int passTravelDay() {
            int leaderSpeed = speedOf(leader);
            int storm = plan.greatestStorm(day);
            int distance = distanceNow();
            kilometre += distance;
            for (int camel = 0; camel < plan.camelCount; camel++) {
                if (isLiving(camel)) {
                    tire(camel, leaderSpeed - speedOf(camel));
                    useWater(camel, needIn(camel, storm));
                }
            }
            endDay();
            return distance;
        }

        void passRestDay() {
            int storm = plan.greatestStorm(day);
            for (int camel = 0; camel < plan.camelCount; camel++) {
                if (isLiving(camel)) {
                    tire(camel, 0);
                    useWater(camel, (needIn(camel, storm) + 1) / 2);
                }
            }
            endDay();
        }

        private void tire(int camel, int behind) {
            if (behind > 0) {
                strain[camel] += behind;
            } else {
                strain[camel] = Math.max(0, strain[camel] - STRAIN_RELIEF);
            }
            if (strain[camel] > STRAIN_MOST) {
                lameDays[camel] += LAME_DAYS_ADDED;
                strain[camel] = 0;
            } else if (lameDays[camel] > 0) {
                lameDays[camel]--;
            }
        }

        private void useWater(int camel, int need) {
            if (water[camel] >= need) {
                water[camel] -= need;
                dryDays[camel] = 0;
                return;
            }
            water[camel] = 0;
            dryDays[camel]++;
            if (!isLiving(camel)) {
                dropAllOf(camel);
            }
        }

        private void dropAllOf(int camel) {
            for (int load = 0; load < loadCount; load++) {
                if (carrier[load] == camel) {
                    layDown(load);
                }
            }
        }

        private void endDay() {
            if (!isLiving(leader)) {
                int follower = quickest();
                leader = follower == NONE ? leader : follower;
            }
            for (int well = 0; well < plan.wellCount; well++) {
                level[well] = Math.min(plan.capacity[well], level[well] + plan.refill[well]);
            }
            day++;
        }

        /** Puts into each row element what this camel would drink now; NONE for a dead one. */
        void shareOut(int well, int[] shares) {
            for (int camel = 0; camel < plan.camelCount; camel++) {
                shares[camel] = NONE;
            }
            int left = level[well];
            for (int turn = 0; turn < plan.camelCount; turn++) {
                int camel = nextToDrink(shares);
                if (camel == NONE) {
                    return;
                }
                shares[camel] = Math.min(left, plan.tank[camel] - water[camel]);
                left -= shares[camel];
            }
        }

        private int nextToDrink(int[] shares) {
            int next = NONE;
            for (int camel = 0; camel < plan.camelCount; camel++) {
                boolean isWaiting = isLiving(camel) && shares[camel] == NONE;
                if (isWaiting && (next == NONE || water[camel] < water[next])) {
                    next = camel;
                }
            }
            return next;
        }

        int takeShares(int well, int[] shares) {
            int sum = 0;
            for (int camel = 0; camel < plan.camelCount; camel++) {
                if (shares[camel] != NONE) {
                    water[camel] += shares[camel];
                    sum += shares[camel];
                }
            }
            level[well] -= sum;
            drunk += sum;
            return sum;
        }
    }

    /** The caravans before the latest changes, in a ring of rows that are used again. */
    private static final class History {
        private final Caravan[] rows = new Caravan[UNDO_LIMIT];
        private int next;
        int count;

        History(Plan plan) {
            for (int i = 0; i < UNDO_LIMIT; i++) {
                rows[i] = new Caravan(plan);
            }
        }

        void forget() {
            count = 0;
        }

        void remember(Caravan now) {
            rows[next].copyFrom(now);
            next = next + 1 < UNDO_LIMIT ? next + 1 : 0;
            count = Math.min(UNDO_LIMIT, count + 1);
        }

        void takeBack(Caravan now) {
            if (count > 0) {
                next = next > 0 ? next - 1 : UNDO_LIMIT - 1;
                count--;
                now.copyFrom(rows[next]);
            }
        }
    }

    /**
     * The input buffer and the reading of its text, one token ahead: what is not taken is the token
     * in error.
     */
    private static final class Input {
        private static final int END = 0;
        private static final int WORD = 1;
        private static final int NUMBER = 2;
        private static final int SEMICOLON = 3;
        private static final int INVALID = 4;
        private static final int DIGITS_MOST = 3;

        private final byte[] text = new byte[INPUT_LIMIT];
        int length;
        /** What the latest text tells, complete only if that text has no error. */
        final Caravan draft = new Caravan(new Plan());
        private int kind;
        private int start;
        private int end;
        private int number;
        private int taken;

        void takeFour(int bytes) {
            for (int shift = 24; shift >= 0; shift -= 8) {
                takeByte(bytes >>> shift);
            }
        }

        void takeText(String signs) {
            for (int i = 0; i < signs.length(); i++) {
                takeByte(signs.charAt(i));
            }
        }

        private void takeByte(int sign) {
            if (length < INPUT_LIMIT) {
                text[length] = (byte) sign;
                length++;
            }
        }

        /** Reads the text into the draft and empties the buffer; the error offset, or NONE. */
        int findError() {
            end = 0;
            step();
            boolean isRight = readRoute() && readCamels() && readWells() && readStorms();
            if (isRight) {
                draft.setOut();
                isRight = readLoads() && kind == END;
            }
            length = 0;
            return isRight ? NONE : start;
        }

        private boolean readRoute() {
            if (!isWord("route")) {
                return false;
            }
            step();
            if (!takeNumber(ROUTE_LEAST, ROUTE_MOST)) {
                return false;
            }
            draft.plan.clear(taken);
            return takeSemicolon();
        }

        private boolean readCamels() {
            boolean isRight = isWord("camel");
            for (int i = 0; i < CAMEL_LIMIT && isRight && isWord("camel"); i++) {
                isRight = readCamel();
            }
            return isRight;
        }

        private boolean readCamel() {
            step();
            if (!takeNumber(10, 60)) {
                return false;
            }
            int pace = taken;
            if (!takeNumber(1, 9)) {
                return false;
            }
            int strength = taken;
            if (!takeNumber(10, 90)) {
                return false;
            }
            draft.plan.addCamel(pace, strength, taken);
            return takeSemicolon();
        }

        private boolean readWells() {
            boolean isRight = true;
            for (int i = 0; i < WELL_LIMIT && isRight && isWord("well"); i++) {
                isRight = readWell();
            }
            return isRight;
        }

        private boolean readWell() {
            step();
            if (kind == NUMBER && draft.plan.wellAt(number) != NONE) {
                return false;
            }
            if (!takeNumber(0, draft.plan.length)) {
                return false;
            }
            int place = taken;
            if (!takeNumber(1, 999)) {
                return false;
            }
            int capacity = taken;
            if (!takeNumber(0, 99)) {
                return false;
            }
            draft.plan.addWell(place, capacity, taken);
            return takeSemicolon();
        }

        private boolean readStorms() {
            boolean isRight = true;
            for (int i = 0; i < STORM_LIMIT && isRight && isWord("storm"); i++) {
                isRight = readStorm();
            }
            return isRight;
        }

        private boolean readStorm() {
            step();
            if (!takeNumber(0, LAST_DAY)) {
                return false;
            }
            int first = taken;
            if (!takeNumber(first, LAST_DAY)) {
                return false;
            }
            int last = taken;
            if (!takeNumber(1, 9)) {
                return false;
            }
            draft.plan.addStorm(first, last, taken);
            return takeSemicolon();
        }

        private boolean readLoads() {
            boolean isRight = true;
            for (int i = 0; i < LOAD_LIMIT && isRight && isWord("load"); i++) {
                isRight = readLoad();
            }
            return isRight;
        }

        private boolean readLoad() {
            step();
            if (!takeNumber(1, WEIGHT_MOST)) {
                return false;
            }
            int weight = taken;
            if (!takeNumber(1, VALUE_MOST)) {
                return false;
            }
            int load = draft.bringLoad(weight, taken);
            if (isWord("on")) {
                step();
                if (kind != NUMBER || draft.freeOn(number) < weight) {
                    return false;
                }
                draft.hangOn(load, number);
                step();
            }
            return takeSemicolon();
        }

        private boolean takeNumber(int least, int most) {
            if (kind != NUMBER || number < least || number > most) {
                return false;
            }
            taken = number;
            step();
            return true;
        }

        private boolean takeSemicolon() {
            if (kind != SEMICOLON) {
                return false;
            }
            step();
            return true;
        }

        private boolean isWord(String word) {
            if (kind != WORD || end - start != word.length()) {
                return false;
            }
            for (int i = 0; i < word.length(); i++) {
                if (text[start + i] != word.charAt(i)) {
                    return false;
                }
            }
            return true;
        }

        /** Goes on to the next token; the end of the text is one too. */
        private void step() {
            start = end;
            while (start < length && (text[start] == ' ' || text[start] == '\n')) {
                start++;
            }
            end = start;
            if (start >= length) {
                kind = END;
            } else if (text[start] >= 'a' && text[start] <= 'z') {
                stepOverWord();
            } else if (text[start] >= '0' && text[start] <= '9') {
                stepOverNumber();
            } else {
                kind = text[start] == ';' ? SEMICOLON : INVALID;
                end++;
            }
        }

        private void stepOverWord() {
            while (end < length && text[end] >= 'a' && text[end] <= 'z') {
                end++;
            }
            kind = WORD;
        }

        private void stepOverNumber() {
            int sum = 0;
            while (end < length && text[end] >= '0' && text[end] <= '9') {
                // Digits behind the third make the token invalid, whatever they add up to.
                sum = end - start < DIGITS_MOST ? sum * 10 + (text[end] - '0') : sum;
                end++;
            }
            kind = end - start <= DIGITS_MOST ? NUMBER : INVALID;
            number = sum;
        }
    }

    /** The written text. */
    private static final class Writing {
        final byte[] bytes = new byte[WRITTEN_LIMIT];
        int length;

        void writeAll(Caravan caravan) {
            length = 0;
            for (int camel = 0; camel < caravan.plan.camelCount; camel++) {
                writeLine(caravan, camel);
            }
        }

        private void writeLine(Caravan caravan, int camel) {
            if (caravan.leader == camel) {
                put('*');
            }
            putNumber(caravan.water[camel]);
            put('/');
            putNumber(caravan.plan.tank[camel]);
            for (int load = 0; load < caravan.loadCount; load++) {
                if (caravan.carrier[load] == camel) {
                    put(',');
                    putNumber(load);
                }
            }
            if (!caravan.isLiving(camel)) {
                put('!');
            }
            put('\n');
        }

        /** Every number of the written text is 0 to 99. */
        private void putNumber(int number) {
            if (number >= 10) {
                put((char) ('0' + number / 10));
            }
            put((char) ('0' + number % 10));
        }

        private void put(char sign) {
            if (length < WRITTEN_LIMIT) {
                bytes[length] = (byte) sign;
                length++;
            }
        }
    }
}
