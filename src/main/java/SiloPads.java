/**
 * Cement silos that are filled from ships and flow out into ships, with layers that set, arches,
 * fluidizing pads on one blower, shakers, loads as texts, and undo.
 */
public final class SiloPads {
    public static final int NONE = -1;

    private static final int SILOS = 4;
    private static final int SHIPS = 6;
    private static final int LAYERS_MOST = 10;
    private static final int LAYER_TONNES_MOST = 500;
    private static final int SILO_TONNES_MOST = 1200;
    private static final int SILO_PADS = 4;
    private static final int HOLD_MOST = 900;
    private static final int HOLD_FIRST = 500;
    private static final int UNLOAD_MOST = 500;
    private static final int HOURS_MOST = 24;
    private static final int DAYS_MOST = 30;
    private static final int BUFFER_MOST = 60;
    private static final int SAVED_MOST = 6;
    private static final int BREAKING_SHAKE = 3;

    private static final int BLOWER = 0;
    private static final int SOFT_DAYS = 1;
    private static final int DUST_PER = 2;
    private static final int BREAKING_TONNES = 3;
    private static final int[] SETTING_LEAST = {0, 1, 5, 0};
    private static final int[] SETTING_MOST = {16, 20, 100, 900};
    private static final int[] SETTING_FIRST = {6, 3, 20, 200};

    private static final int SOFT = 0;
    private static final int STIFF = 1;
    private static final int HARD = 2;

    private static final int NO_ARCH = 0;
    private static final int ARCH_OVER_LAYER = 1;
    private static final int ARCH_OVER_NOTHING = 2;

    private static final long HASH_START = 3533L;
    private static final long TWO_TO_52 = 4503599627370496L;

    private final Yard now = new Yard();
    private final Yard[] saved = new Yard[SAVED_MOST];
    private int savedStates = 0;
    private final int[] codes = new int[BUFFER_MOST];
    private int length = 0;
    private final TextReader reader = new TextReader();
    private final Silo trialSilo = new Silo();
    private final Ship trialShip = new Ship();

    public SiloPads() {
        for (int k = 0; k < saved.length; k++) {
            saved[k] = new Yard();
        }
    }

    // ---- ships

    public int ship(int ship, int hold, int tonnes)
            throws IndexOutOfBoundsException, IllegalArgumentException {
        if (isNoShip(ship)) {
            throw new IndexOutOfBoundsException("no such ship");
        }
        if (hold < 0 || hold > HOLD_MOST || tonnes < 0 || tonnes > hold) {
            throw new IllegalArgumentException("hold or tonnes out of range");
        }
        saveState();
        Ship place = now.ships[ship];
        int before = place.tonnes;
        place.tonnes = tonnes;
        place.hold = hold;
        now.brought += tonnes;
        now.gone += before;
        return before;
    }

    public int unload(int silo, int ship, int tonnes)
            throws IndexOutOfBoundsException, IllegalArgumentException {
        if (isNoSilo(silo) || isNoShip(ship)) {
            throw new IndexOutOfBoundsException("no such silo or ship");
        }
        if (tonnes < 1 || tonnes > UNLOAD_MOST) {
            throw new IllegalArgumentException("tonnes out of range");
        }
        saveState();
        return bringIn(now.silos[silo], now.ships[ship], tonnes);
    }

    public int flow(int silo, int ship, int hours)
            throws IndexOutOfBoundsException, IllegalArgumentException {
        if (isNoSilo(silo) || isNoShip(ship)) {
            throw new IndexOutOfBoundsException("no such silo or ship");
        }
        if (hours < 1 || hours > HOURS_MOST) {
            throw new IllegalArgumentException("hours out of range");
        }
        saveState();
        return letOut(now.silos[silo], now.ships[ship], hours);
    }

    // ---- pads, shakers, days

    public int pads(int silo, int pads)
            throws IndexOutOfBoundsException, IllegalArgumentException, IllegalStateException {
        if (isNoSilo(silo)) {
            throw new IndexOutOfBoundsException("no such silo");
        }
        if (pads < 0 || pads > SILO_PADS) {
            throw new IllegalArgumentException("pads out of range");
        }
        int before = now.silos[silo].padsOn;
        if (now.padsOn() - before + pads > now.settings[BLOWER]) {
            throw new IllegalStateException("the blower does not bear them");
        }
        saveState();
        now.silos[silo].padsOn = pads;
        return before;
    }

    public int shake(int silo) throws IndexOutOfBoundsException, IllegalStateException {
        if (isNoSilo(silo)) {
            throw new IndexOutOfBoundsException("no such silo");
        }
        Silo shaken = now.silos[silo];
        if (shaken.layers == 0) {
            throw new IllegalStateException("no layers");
        }
        saveState();
        boolean breaks = shakesToBreak(shaken) == 1;
        shaken.shakes++;
        now.shakes++;
        shaken.makeLowestYounger();
        if (breaks) {
            shaken.arch = NO_ARCH;
        }
        return breaks ? 1 : 0;
    }

    public int pass(int days) throws IllegalArgumentException {
        if (days < 1 || days > DAYS_MOST) {
            throw new IllegalArgumentException("days out of range");
        }
        saveState();
        return passDays(days);
    }

    public int set(int setting, int value)
            throws IndexOutOfBoundsException, IllegalArgumentException, IllegalStateException {
        if (setting < 0 || setting >= now.settings.length) {
            throw new IndexOutOfBoundsException("no such setting");
        }
        if (value < SETTING_LEAST[setting] || value > SETTING_MOST[setting]) {
            throw new IllegalArgumentException("value out of range");
        }
        if (setting == BLOWER && now.padsOn() > value) {
            throw new IllegalStateException("more pads are on");
        }
        saveState();
        int before = now.settings[setting];
        now.settings[setting] = value;
        return before;
    }

    // ---- texts

    public int append(int code) throws IllegalArgumentException, IllegalStateException {
        if (code < 33 || code > 126) {
            throw new IllegalArgumentException("no character of a text");
        }
        if (length >= codes.length) {
            throw new IllegalStateException("the buffer is full");
        }
        codes[length] = code;
        length++;
        return length;
    }

    public int clearBuffer() {
        int before = length;
        length = 0;
        return before;
    }

    public int firstError() {
        reader.begin();
        for (int k = 0; k < length; k++) {
            if (!reader.take(codes[k])) {
                return k;
            }
        }
        return length;
    }

    public int play() throws IllegalArgumentException {
        if (firstError() < length || !reader.isComplete()) {
            throw new IllegalArgumentException("no complete loads as a text");
        }
        saveState();
        int came = playParts();
        length = 0;
        return came;
    }

    public int undo() throws IllegalStateException {
        if (savedStates == 0) {
            throw new IllegalStateException("no saved state");
        }
        savedStates--;
        now.becomeLike(saved[savedStates]);
        return savedStates;
    }

    // ---- looks; nothing is changed

    public int silo(int silo, int what) throws IndexOutOfBoundsException, IllegalArgumentException {
        if (isNoSilo(silo)) {
            throw new IndexOutOfBoundsException("no such silo");
        }
        Silo seen = now.silos[silo];
        switch (what) {
            case 0:
                return seen.total();
            case 1:
                return seen.layers;
            case 2:
                return seen.padsOn;
            case 3:
                return seen.arch == NO_ARCH ? 0 : 1;
            case 4:
                return seen.shakes;
            case 5:
                return outInHour(seen, seen.padsOn);
            default:
                throw new IllegalArgumentException("no such number of a silo");
        }
    }

    public int layer(int silo, int layer, int what)
            throws IndexOutOfBoundsException, IllegalArgumentException {
        if (isNoSilo(silo)) {
            throw new IndexOutOfBoundsException("no such silo");
        }
        Silo seen = now.silos[silo];
        if (layer < 0 || layer >= seen.layers) {
            throw new IndexOutOfBoundsException("no such layer");
        }
        switch (what) {
            case 0:
                return seen.tonnes[layer];
            case 1:
                return seen.ages[layer];
            case 2:
                return hardnessAt(seen.ages[layer]);
            default:
                throw new IllegalArgumentException("no such number of a layer");
        }
    }

    public int shipOf(int ship, int what) throws IndexOutOfBoundsException, IllegalArgumentException {
        if (isNoShip(ship)) {
            throw new IndexOutOfBoundsException("no such ship");
        }
        if (what != 0 && what != 1) {
            throw new IllegalArgumentException("no such number of a ship");
        }
        return what == 0 ? now.ships[ship].tonnes : now.ships[ship].hold;
    }

    public int count(int what) throws IllegalArgumentException {
        switch (what) {
            case 0:
                return now.days;
            case 1:
                return now.siloTonnes();
            case 2:
                return now.shipTonnes();
            case 3:
                return now.dust;
            case 4:
                return now.brought;
            case 5:
                return now.gone;
            case 6:
                return now.padsOn();
            case 7:
                return now.arches();
            case 8:
                return now.shakes;
            case 9:
                return now.formed;
            case 10:
            case 11:
            case 12:
            case 13:
                return now.settings[what - 10];
            case 14:
                return savedStates;
            default:
                throw new IllegalArgumentException("no such count");
        }
    }

    // ---- what would be; nothing is changed

    public int whyNot(int silo, int ship) throws IndexOutOfBoundsException {
        if (isNoSilo(silo) || isNoShip(ship)) {
            throw new IndexOutOfBoundsException("no such silo or ship");
        }
        Silo from = now.silos[silo];
        if (from.layers == 0) {
            return 1;
        }
        if (from.arch == ARCH_OVER_NOTHING) {
            return 2;
        }
        if (now.ships[ship].room() == 0) {
            return 3;
        }
        return outInHour(from, from.padsOn) == 0 ? 4 : 0;
    }

    public int ifFlowed(int silo, int ship, int hours, int pads)
            throws IndexOutOfBoundsException, IllegalArgumentException {
        if (isNoSilo(silo) || isNoShip(ship)) {
            throw new IndexOutOfBoundsException("no such silo or ship");
        }
        if (hours < 1 || hours > HOURS_MOST || pads < 0 || pads > SILO_PADS) {
            throw new IllegalArgumentException("hours or pads out of range");
        }
        trialSilo.becomeLike(now.silos[silo]);
        trialSilo.padsOn = pads;
        trialShip.becomeLike(now.ships[ship]);
        return pour(trialSilo, trialShip, hours);
    }

    public int urgent() {
        int best = NONE;
        for (int k = 0; k < SILOS; k++) {
            if (now.silos[k].layers > 0
                    && (best == NONE || isMoreUrgent(now.silos[k], now.silos[best]))) {
                best = k;
            }
        }
        return best;
    }

    public int nextArch() {
        int soonest = NONE;
        for (int k = 0; k < SILOS; k++) {
            if (now.silos[k].canGetArch()) {
                int days = daysUntilStiff(now.silos[k].ages[0]);
                soonest = soonest == NONE ? days : Math.min(soonest, days);
            }
        }
        return soonest;
    }

    public int shakesNeeded(int silo) throws IndexOutOfBoundsException {
        if (isNoSilo(silo)) {
            throw new IndexOutOfBoundsException("no such silo");
        }
        return shakesToBreak(now.silos[silo]);
    }

    public double softness() {
        int all = now.siloTonnes();
        if (all == 0) {
            return 1.0;
        }
        int soft = 0;
        for (int k = 0; k < SILOS; k++) {
            soft += softTonnes(now.silos[k]);
        }
        return (double) soft / all;
    }

    public long digest() {
        long hash = HASH_START;
        for (int what = 0; what <= 14; what++) {
            hash = 31 * hash + count(what);
        }
        for (int k = 0; k < SILOS; k++) {
            hash = hashWithSilo(hash, k);
        }
        for (int k = 0; k < SHIPS; k++) {
            hash = 31 * hash + shipOf(k, 0);
            hash = 31 * hash + shipOf(k, 1);
        }
        hash = 31 * hash + urgent();
        hash = 31 * hash + nextArch();
        hash = 31 * hash + bitsOfShare(softness());
        hash = 31 * hash + length;
        for (int k = 0; k < length; k++) {
            hash = 31 * hash + codes[k];
        }
        return hash;
    }

    private static boolean isNoSilo(int silo) {
        return silo < 0 || silo >= SILOS;
    }

    private static boolean isNoShip(int ship) {
        return ship < 0 || ship >= SHIPS;
    }

    /** Rows are used again: the oldest saved state's row becomes the newest one's. */
    private void saveState() {
        if (savedStates == SAVED_MOST) {
            Yard oldest = saved[0];
            for (int k = 1; k < SAVED_MOST; k++) {
                saved[k - 1] = saved[k];
            }
            saved[SAVED_MOST - 1] = oldest;
            savedStates--;
        }
        saved[savedStates].becomeLike(now);
        savedStates++;
    }

    private int bringIn(Silo into, Ship from, int tonnes) {
        int comes = Math.min(tonnes, Math.min(from.tonnes, into.place()));
        from.tonnes -= comes;
        into.fill(comes);
        return comes;
    }

    private int letOut(Silo from, Ship into, int hours) {
        int before = from.total();
        int came = pour(from, into, hours);
        now.dust += before - from.total() - came;
        return came;
    }

    private int pour(Silo from, Ship into, int hours) {
        int came = 0;
        for (int hour = 0; hour < hours; hour++) {
            came += pourForHour(from, into);
        }
        return came;
    }

    private int pourForHour(Silo from, Ship into) {
        if (from.layers == 0 || from.arch == ARCH_OVER_NOTHING) {
            return 0;
        }
        int out = Math.min(outInHour(from, from.padsOn), Math.min(from.tonnes[0], into.room()));
        int comes = out - dustOf(out);
        from.takeFromLowest(out);
        into.tonnes += comes;
        return comes;
    }

    private int dustOf(int out) {
        int per = now.settings[DUST_PER];
        return per > 0 ? out / per : 0;
    }

    private int outInHour(Silo from, int padsOn) {
        if (from.layers == 0) {
            return 0;
        }
        switch (hardnessAt(from.ages[0])) {
            case SOFT:
                return padsOn == 0 ? 5 : 40 * padsOn;
            case STIFF:
                return padsOn == 0 ? 0 : 20 * (padsOn - 1);
            default:
                return padsOn == SILO_PADS ? 10 * (padsOn - 3) : 0;
        }
    }

    private int hardnessAt(int age) {
        int softDays = now.settings[SOFT_DAYS];
        if (age <= softDays) {
            return SOFT;
        }
        return age <= 2 * softDays ? STIFF : HARD;
    }

    private int softTonnes(Silo silo) {
        int soft = 0;
        for (int k = 0; k < silo.layers; k++) {
            if (hardnessAt(silo.ages[k]) == SOFT) {
                soft += silo.tonnes[k];
            }
        }
        return soft;
    }

    private int passDays(int days) {
        int formed = 0;
        for (int day = 0; day < days; day++) {
            now.days++;
            for (int k = 0; k < SILOS; k++) {
                formed += passDayIn(now.silos[k]);
            }
        }
        now.formed += formed;
        return formed;
    }

    private int passDayIn(Silo silo) {
        silo.makeOlder();
        if (!silo.canGetArch() || hardnessAt(silo.ages[0]) == SOFT) {
            return 0;
        }
        silo.arch = ARCH_OVER_LAYER;
        silo.shakes = 0;
        return 1;
    }

    /** An arch forms by a day only, so a layer that is stiff already counts as one day. */
    private int daysUntilStiff(int age) {
        return Math.max(1, now.settings[SOFT_DAYS] + 1 - age);
    }

    private int shakesToBreak(Silo silo) {
        if (silo.arch == NO_ARCH) {
            return 0;
        }
        if (silo.tonnesHeld() >= now.settings[BREAKING_TONNES]) {
            return 1;
        }
        return Math.max(1, BREAKING_SHAKE - silo.shakes);
    }

    private static boolean isMoreUrgent(Silo silo, Silo than) {
        if (silo.ages[0] != than.ages[0]) {
            return silo.ages[0] > than.ages[0];
        }
        return silo.total() > than.total();
    }

    private int playParts() {
        int came = 0;
        reader.begin();
        for (int k = 0; k < length; k++) {
            if (codes[k] == ';') {
                came += playPart();
            }
            reader.take(codes[k]);
        }
        return came + playPart();
    }

    private int playPart() {
        if (reader.kind == '+') {
            passDays(reader.number);
            return 0;
        }
        Silo silo = now.silos[reader.silo];
        Ship ship = now.ships[reader.ship];
        if (reader.kind == '<') {
            return bringIn(silo, ship, reader.number);
        }
        return letOut(silo, ship, reader.number);
    }

    private long hashWithSilo(long start, int silo) {
        long hash = start;
        for (int what = 0; what <= 5; what++) {
            hash = 31 * hash + silo(silo, what);
        }
        int layers = now.silos[silo].layers;
        for (int k = 0; k < layers; k++) {
            for (int what = 0; what <= 2; what++) {
                hash = 31 * hash + layer(silo, k, what);
            }
        }
        hash = 31 * hash + shakesNeeded(silo);
        hash = 31 * hash + whyNot(silo, 0);
        return 31 * hash + ifFlowed(silo, 0, 4, SILO_PADS);
    }

    /** The bits of a double from 0.0 to 1.0, by hand: the language here has no Double. */
    private static long bitsOfShare(double share) {
        if (share <= 0.0) {
            return 0L;
        }
        double digits = share;
        long exponent = 1023L;
        for (int k = 0; k < 1022 && digits < 1.0; k++) {
            digits = digits * 2.0;
            exponent--;
        }
        return (exponent << 52) + (long) ((digits - 1.0) * (double) TWO_TO_52);
    }

    /** All that undo restores. */
    private static final class Yard {
        final Silo[] silos = new Silo[SILOS];
        final Ship[] ships = new Ship[SHIPS];
        final int[] settings = SETTING_FIRST.clone();
        int days = 0;
        int dust = 0;
        int brought = 0;
        int gone = 0;
        int shakes = 0;
        int formed = 0;

        Yard() {
            for (int k = 0; k < silos.length; k++) {
                silos[k] = new Silo();
            }
            for (int k = 0; k < ships.length; k++) {
                ships[k] = new Ship();
            }
        }

        void becomeLike(Yard other) {
            for (int k = 0; k < SILOS; k++) {
                silos[k].becomeLike(other.silos[k]);
            }
            for (int k = 0; k < SHIPS; k++) {
                ships[k].becomeLike(other.ships[k]);
            }
            for (int k = 0; k < settings.length && k < other.settings.length; k++) {
                settings[k] = other.settings[k];
            }
            days = other.days;
            dust = other.dust;
            brought = other.brought;
            gone = other.gone;
            shakes = other.shakes;
            formed = other.formed;
        }

        int siloTonnes() {
            int sum = 0;
            for (int k = 0; k < SILOS; k++) {
                sum += silos[k].total();
            }
            return sum;
        }

        int shipTonnes() {
            int sum = 0;
            for (int k = 0; k < SHIPS; k++) {
                sum += ships[k].tonnes;
            }
            return sum;
        }

        int padsOn() {
            int sum = 0;
            for (int k = 0; k < SILOS; k++) {
                sum += silos[k].padsOn;
            }
            return sum;
        }

        int arches() {
            int sum = 0;
            for (int k = 0; k < SILOS; k++) {
                sum += silos[k].arch == NO_ARCH ? 0 : 1;
            }
            return sum;
        }
    }

    private static final class Ship {
        int tonnes = 0;
        int hold = HOLD_FIRST;

        void becomeLike(Ship other) {
            tonnes = other.tonnes;
            hold = other.hold;
        }

        int room() {
            return hold - tonnes;
        }
    }

    /** The layers stand in their rows from the bottom; what lies behind the layers' number is void. */
    private static final class Silo {
        final int[] tonnes = new int[LAYERS_MOST];
        final int[] ages = new int[LAYERS_MOST];
        int layers = 0;
        int padsOn = 0;
        int arch = NO_ARCH;
        int shakes = 0;

        void becomeLike(Silo other) {
            for (int k = 0; k < LAYERS_MOST; k++) {
                tonnes[k] = other.tonnes[k];
                ages[k] = other.ages[k];
            }
            layers = other.layers;
            padsOn = other.padsOn;
            arch = other.arch;
            shakes = other.shakes;
        }

        int total() {
            return totalFrom(0);
        }

        int totalFrom(int lowest) {
            int sum = 0;
            for (int k = lowest; k < layers; k++) {
                sum += tonnes[k];
            }
            return sum;
        }

        int tonnesHeld() {
            return totalFrom(arch == ARCH_OVER_NOTHING ? 0 : 1);
        }

        boolean canGetArch() {
            return layers >= 2 && arch == NO_ARCH;
        }

        int placeOnTop() {
            if (layers == 0 || ages[layers - 1] != 0) {
                return 0;
            }
            return LAYER_TONNES_MOST - tonnes[layers - 1];
        }

        int place() {
            int newLayer = layers < LAYERS_MOST ? LAYER_TONNES_MOST : 0;
            return Math.min(SILO_TONNES_MOST - total(), placeOnTop() + newLayer);
        }

        void fill(int amount) {
            int onTop = Math.min(amount, placeOnTop());
            if (onTop > 0 && layers > 0) {
                tonnes[layers - 1] += onTop;
            }
            int rest = amount - onTop;
            if (rest > 0 && layers < LAYERS_MOST) {
                tonnes[layers] = rest;
                ages[layers] = 0;
                layers++;
                shakes = 0;
            }
        }

        void takeFromLowest(int out) {
            tonnes[0] -= out;
            if (tonnes[0] > 0) {
                return;
            }
            for (int k = 1; k < layers; k++) {
                tonnes[k - 1] = tonnes[k];
                ages[k - 1] = ages[k];
            }
            layers--;
            if (arch == ARCH_OVER_LAYER) {
                arch = ARCH_OVER_NOTHING;
            }
        }

        void makeOlder() {
            for (int k = 0; k < layers; k++) {
                ages[k]++;
            }
        }

        void makeLowestYounger() {
            ages[0] = Math.max(0, ages[0] - 1);
        }
    }

    /** Reads loads as a text, a character at a time, and keeps what the latest part tells. */
    private static final class TextReader {
        static final int AT_PART = 0;
        static final int AT_SIGN = 1;
        static final int AT_SHIP = 2;
        static final int AT_COLON = 3;
        static final int AT_NUMBER = 4;
        static final int IN_NUMBER = 5;

        int place = AT_PART;
        int silo = 0;
        int ship = 0;
        int kind = '+';
        int number = 1;

        void begin() {
            place = AT_PART;
        }

        boolean isComplete() {
            return place == IN_NUMBER;
        }

        /** Tells whether the character may stand here; a wrong one changes nothing. */
        boolean take(int code) {
            switch (place) {
                case AT_PART:
                    return takePartStart(code);
                case AT_SIGN:
                    return takeSign(code);
                case AT_SHIP:
                    return takeShip(code - '0');
                case AT_COLON:
                    return moveOn(code == ':', AT_NUMBER);
                case AT_NUMBER:
                    return takeFirstDigit(code - '0');
                default:
                    return code == ';' ? moveOn(true, AT_PART) : takeNextDigit(code - '0');
            }
        }

        boolean takePartStart(int code) {
            if (code == '+') {
                kind = code;
                return moveOn(true, AT_NUMBER);
            }
            if (isNoSilo(code - '0')) {
                return false;
            }
            silo = code - '0';
            return moveOn(true, AT_SIGN);
        }

        boolean takeSign(int code) {
            if (code != '<' && code != '>') {
                return false;
            }
            kind = code;
            return moveOn(true, AT_SHIP);
        }

        boolean takeShip(int digit) {
            if (isNoShip(digit)) {
                return false;
            }
            ship = digit;
            return moveOn(true, AT_COLON);
        }

        boolean takeFirstDigit(int digit) {
            if (digit < 1 || digit > 9) {
                return false;
            }
            number = digit;
            return moveOn(true, IN_NUMBER);
        }

        boolean takeNextDigit(int digit) {
            if (digit < 0 || digit > 9 || 10 * number + digit > numberMost()) {
                return false;
            }
            number = 10 * number + digit;
            return true;
        }

        int numberMost() {
            switch (kind) {
                case '<':
                    return UNLOAD_MOST;
                case '>':
                    return HOURS_MOST;
                default:
                    return DAYS_MOST;
            }
        }

        boolean moveOn(boolean mayStand, int next) {
            if (mayStand) {
                place = next;
            }
            return mayStand;
        }
    }
}
