/**
 * Masts on farm land along a line of hills: cells, leases and rents, power, calls, and traffic found
 * again from the log of calls. The document ../shared/DOC.md says what each method promises.
 */
public final class Mastline {
    public static final int NONE = -1;

    private static final int PLACES = 100;
    private static final int MAX_MASTS = 8;
    private static final int MAX_PHONES = 12;
    private static final int FARMERS = 6;
    private static final int MAX_RANGE = 40;
    private static final int MAX_CALLS = 10;
    private static final int MAX_PANELS = 10;
    private static final int MAX_BATTERY = 100;
    private static final int MAX_SUN = 10;
    private static final int TENTHS = 10;
    private static final int MAX_RENT = 1000;
    private static final int MAX_BY_CALL = 100;
    private static final int MAX_PASS = 100;
    private static final int LAST_HOUR = 10000;
    private static final int OWN_NEED = 2;
    private static final int LOG_BLOCK = 64;

    /** By their numbers; null where there is none yet. */
    private final Mast[] masts = new Mast[MAX_MASTS];
    private final Phone[] phones = new Phone[MAX_PHONES];
    private final int[] paidTo = new int[FARMERS];
    private int hour;
    private int sunNow;

    public Mastline() {
    }

    public int mast(int place, int range, int calls, int panels, int battery, boolean grid)
            throws IllegalArgumentException, IllegalStateException {
        if (!isPlace(place) || !isWithin(range, 1, MAX_RANGE) || !isWithin(calls, 1, MAX_CALLS)
                || !isWithin(panels, 0, MAX_PANELS) || !isWithin(battery, 0, MAX_BATTERY)) {
            throw new IllegalArgumentException();
        }
        for (int number = 0; number < masts.length; number++) {
            if (masts[number] == null) {
                masts[number] = new Mast(number, place, range, calls, panels, battery, grid);
                return number;
            }
        }
        throw new IllegalStateException();
    }

    public void lease(int mast, int farmer, int other, int tenths, int until, int rent, int byCall)
            throws IndexOutOfBoundsException, IllegalArgumentException, IllegalStateException {
        Mast leased = mastAt(mast);
        if (leased == null || !isFarmer(farmer) || (other != NONE && !isFarmer(other))) {
            throw new IndexOutOfBoundsException();
        }
        if (farmer == other || !isWithin(tenths, other == NONE ? TENTHS : 0, TENTHS)
                || !isWithin(until, hour + 1, LAST_HOUR)
                || !isWithin(rent, 0, MAX_RENT) || !isWithin(byCall, 0, MAX_BY_CALL)) {
            throw new IllegalArgumentException();
        }
        if (leased.lease != null) {
            throw new IllegalStateException();
        }
        leased.lease = new Lease(farmer, other, tenths, until, rent, byCall);
    }

    public int sun(int sun) throws IllegalArgumentException {
        if (!isWithin(sun, 0, MAX_SUN)) {
            throw new IllegalArgumentException();
        }
        int before = sunNow;
        sunNow = sun;
        return before;
    }

    public int phone(int place) throws IllegalArgumentException, IllegalStateException {
        if (!isPlace(place)) {
            throw new IllegalArgumentException();
        }
        for (int number = 0; number < phones.length; number++) {
            if (phones[number] == null) {
                phones[number] = new Phone(place);
                return number;
            }
        }
        throw new IllegalStateException();
    }

    public int call(int phone) throws IndexOutOfBoundsException, IllegalStateException {
        Phone caller = phoneAt(phone);
        if (caller == null) {
            throw new IndexOutOfBoundsException();
        }
        if (caller.carrier != null) {
            throw new IllegalStateException();
        }
        Mast nearest = nearestFree(caller.place);
        if (nearest == null) {
            caller.blocked++;
            return NONE;
        }
        caller.comeTo(nearest, hour);
        return nearest.number;
    }

    public int end(int phone) throws IndexOutOfBoundsException, IllegalStateException {
        Phone caller = phoneAt(phone);
        if (caller == null) {
            throw new IndexOutOfBoundsException();
        }
        if (caller.carrier == null) {
            throw new IllegalStateException();
        }
        int carriedBy = caller.carrierNumber();
        caller.goAway(hour);
        return carriedBy;
    }

    public int move(int phone, int place) throws IndexOutOfBoundsException, IllegalArgumentException {
        Phone mover = phoneAt(phone);
        if (mover == null) {
            throw new IndexOutOfBoundsException();
        }
        if (!isPlace(place)) {
            throw new IllegalArgumentException();
        }
        mover.place = place;
        if (mover.carrier != null && !mover.carrier.covers(place)) {
            handOverOrDrop(mover);
        }
        return mover.carrierNumber();
    }

    public int pass(int hours) throws IllegalArgumentException, IllegalStateException {
        if (!isWithin(hours, 1, MAX_PASS)) {
            throw new IllegalArgumentException();
        }
        if (hour + hours > LAST_HOUR) {
            throw new IllegalStateException();
        }
        for (int gone = 0; gone < hours; gone++) {
            letAnHourGoBy();
        }
        return hour;
    }

    public int ofMast(int mast, int what) throws IndexOutOfBoundsException, IllegalArgumentException {
        Mast asked = mastAt(mast);
        if (asked == null) {
            throw new IndexOutOfBoundsException();
        }
        switch (what) {
            case 0:
                return asked.isOn() ? 1 : 0;
            case 1:
                return asked.carried;
            case 2:
                return asked.stored;
            case 3:
                return asked.ofGrid;
            case 4:
                return asked.traffic;
            case 5:
                return asked.lease == null ? NONE : asked.lease.until;
            default:
                throw new IllegalArgumentException();
        }
    }

    public int trafficAnew(int mast) throws IndexOutOfBoundsException {
        Mast asked = mastAt(mast);
        if (asked == null) {
            throw new IndexOutOfBoundsException();
        }
        int found = asked.hoursOfLog();
        for (Phone phone : phones) {
            if (phone != null && phone.carrier == asked) {
                found += hour - phone.came;
            }
        }
        return found;
    }

    public int ofPhone(int phone, int what) throws IndexOutOfBoundsException, IllegalArgumentException {
        Phone asked = phoneAt(phone);
        if (asked == null) {
            throw new IndexOutOfBoundsException();
        }
        switch (what) {
            case 0:
                return asked.place;
            case 1:
                return asked.carrierNumber();
            case 2:
                return asked.blocked;
            case 3:
                return asked.dropped;
            case 4:
                return asked.handedOver;
            default:
                throw new IllegalArgumentException();
        }
    }

    public float strength(int phone) throws IndexOutOfBoundsException {
        Phone asked = phoneAt(phone);
        if (asked == null) {
            throw new IndexOutOfBoundsException();
        }
        Mast carrier = asked.carrier;
        if (carrier == null || carrier.range < 1) {
            return 0.0f;
        }
        return 1.0f - (float) carrier.distanceTo(asked.place) / (float) carrier.range;
    }

    public int paid(int farmer) throws IndexOutOfBoundsException {
        if (!isFarmer(farmer)) {
            throw new IndexOutOfBoundsException();
        }
        return paidTo[farmer];
    }

    public int holes() {
        int holes = 0;
        for (int place = 0; place < PLACES; place++) {
            if (!isCovered(place)) {
                holes++;
            }
        }
        return holes;
    }

    private static boolean isWithin(int number, int least, int most) {
        return least <= number && number <= most;
    }

    private static boolean isPlace(int place) {
        return isWithin(place, 0, PLACES - 1);
    }

    private static boolean isFarmer(int farmer) {
        return isWithin(farmer, 0, FARMERS - 1);
    }

    /** Null if there is no such mast. */
    private Mast mastAt(int number) {
        return isWithin(number, 0, masts.length - 1) ? masts[number] : null;
    }

    /** Null if there is no such phone. */
    private Phone phoneAt(int number) {
        return isWithin(number, 0, phones.length - 1) ? phones[number] : null;
    }

    private boolean isCovered(int place) {
        for (Mast mast : masts) {
            if (mast != null && mast.isOn() && mast.covers(place)) {
                return true;
            }
        }
        return false;
    }

    /** The mast that takes a call at a place; null if none does. */
    private Mast nearestFree(int place) {
        Mast nearest = null;
        for (Mast mast : masts) {
            if (mast != null && mast.isOn() && mast.hasRoom() && mast.covers(place)
                    && (nearest == null || mast.distanceTo(place) < nearest.distanceTo(place))) {
                nearest = mast;
            }
        }
        return nearest;
    }

    /** For a call whose mast can't take it: so the search finds another one, or none. */
    private void handOverOrDrop(Phone phone) {
        phone.goAway(hour);
        Mast next = nearestFree(phone.place);
        if (next == null) {
            phone.dropped++;
        } else {
            phone.handedOver++;
            phone.comeTo(next, hour);
        }
    }

    private void letAnHourGoBy() {
        countTraffic();
        payRents();
        powerMasts();
        hour++;
        endLeases();
        leaveMastsThatAreNotOn();
    }

    private void countTraffic() {
        for (Mast mast : masts) {
            if (mast != null && mast.isOn()) {
                mast.traffic += mast.carried;
            }
        }
    }

    private void payRents() {
        for (Mast mast : masts) {
            if (mast != null && mast.lease != null) {
                payRent(mast.lease, mast.carried);
            }
        }
    }

    private void payRent(Lease lease, int calls) {
        int both = lease.rent + lease.byCall * calls;
        int first = both * lease.tenths / TENTHS;
        pay(lease.farmer, first);
        pay(lease.other, both - first);
    }

    private void pay(int farmer, int amount) {
        if (isFarmer(farmer)) {
            paidTo[farmer] += amount;
        }
    }

    private void powerMasts() {
        for (Mast mast : masts) {
            if (mast != null) {
                mast.takePower(sunNow);
            }
        }
    }

    private void endLeases() {
        for (Mast mast : masts) {
            if (mast != null && mast.lease != null && mast.lease.until <= hour) {
                mast.lease = null;
            }
        }
    }

    private void leaveMastsThatAreNotOn() {
        for (Phone phone : phones) {
            if (phone != null && phone.carrier != null && !phone.carrier.isOn()) {
                handOverOrDrop(phone);
            }
        }
    }

    private static final class Lease {
        private final int farmer;
        private final int other;
        private final int tenths;
        private final int until;
        private final int rent;
        private final int byCall;

        private Lease(int farmer, int other, int tenths, int until, int rent, int byCall) {
            this.farmer = farmer;
            this.other = other;
            this.tenths = tenths;
            this.until = until;
            this.rent = rent;
            this.byCall = byCall;
        }
    }

    private static final class Mast {
        private final int number;
        private final int place;
        private final int range;
        private final int calls;
        private final int panels;
        private final int battery;
        private final boolean grid;
        private Lease lease;
        /** Whether it was OUT in the latest hour; it outlives the lease, as the document asks. */
        private boolean out;
        private int carried;
        private int stored;
        private int ofGrid;
        private int traffic;
        private Log log;

        private Mast(int number, int place, int range, int calls, int panels, int battery, boolean grid) {
            this.number = number;
            this.place = place;
            this.range = range;
            this.calls = calls;
            this.panels = panels;
            this.battery = battery;
            this.grid = grid;
        }

        private boolean isOn() {
            return lease != null && !out;
        }

        private int distanceTo(int there) {
            return Math.abs(there - place);
        }

        private boolean covers(int there) {
            return distanceTo(there) <= range;
        }

        private boolean hasRoom() {
            return carried < calls;
        }

        private void takePower(int sun) {
            out = false;
            if (lease == null) {
                return;
            }
            int units = stored + panels * sun;
            int need = OWN_NEED + carried;
            if (units >= need) {
                stored = Math.min(units - need, battery);
            } else if (grid) {
                ofGrid += need - units;
                stored = 0;
            } else {
                out = true;
                stored = Math.min(units, battery);
            }
        }

        /**
         * A stay of no hours is no traffic and is left out: so 12 phones and 10000 hours bound the log
         * to 120000 stays, however many calls come and go.
         */
        private void logStay(int came, int went) {
            if (went <= came) {
                return;
            }
            if (log == null || log.isFull()) {
                log = new Log(log);
            }
            log.add(came, went);
        }

        private int hoursOfLog() {
            int hours = 0;
            for (Log block = log; block != null; block = block.before) {
                hours += block.hours();
            }
            return hours;
        }
    }

    private static final class Phone {
        private int place;
        /** The mast that carries its call; null without a call. */
        private Mast carrier;
        /** The hour at which the call came to that mast. */
        private int came;
        private int blocked;
        private int dropped;
        private int handedOver;

        private Phone(int place) {
            this.place = place;
        }

        private int carrierNumber() {
            return carrier == null ? NONE : carrier.number;
        }

        private void comeTo(Mast mast, int hour) {
            if (mast == null) {
                return;
            }
            carrier = mast;
            came = hour;
            mast.carried++;
        }

        private void goAway(int hour) {
            if (carrier == null) {
                return;
            }
            carrier.carried--;
            carrier.logStay(came, hour);
            carrier = null;
        }
    }

    /**
     * A block of the log of a mast: when calls came and when they went. Blocks are chained, not copied
     * into longer ones, so that even an hour full of handovers makes few elements.
     */
    private static final class Log {
        private final int[] came = new int[LOG_BLOCK];
        private final int[] went = new int[LOG_BLOCK];
        private final Log before;
        private int size;

        private Log(Log before) {
            this.before = before;
        }

        private boolean isFull() {
            return size >= LOG_BLOCK;
        }

        private void add(int cameAt, int wentAt) {
            if (size >= 0 && size < LOG_BLOCK) {
                came[size] = cameAt;
                went[size] = wentAt;
                size++;
            }
        }

        private int hours() {
            int hours = 0;
            for (int i = 0; i < size && i < LOG_BLOCK; i++) {
                hours += went[i] - came[i];
            }
            return hours;
        }
    }
}
