import java.util.NoSuchElementException;

/** A cellar of rain: barrels under mossy roofs, storms that fill them, hail, and a panel that drinks. */
public final class RainCellar {
    private static final int ROOFS = 4;
    private static final int FIRST_MOSS = 3;
    private static final int MOST_MOSS = 9;
    private static final int MOST_BARRELS = 8;
    private static final int BARREL_ROOM = 20;
    private static final int BUCKET_ROOM = 9;
    private static final int MOST_STRENGTH = 9;
    private static final int MOST_STORM_HAIL = 3;
    private static final int MOST_HAIL_LITRES = 9;
    private static final int MOST_SOMMELIERS = 4;
    private static final int MOST_PALATE = 9;
    private static final int STRICT_BY = 2;
    private static final int MOST_TASTE = 9;
    private static final int MOST_YEARS_AHEAD = 20;
    private static final int KEPT_STORMS = 12;
    private static final int KEPT_CHANGES = 8;
    private static final int MOST_SIGNS = 60;
    private static final int NUMBERS_A_COMMAND = 3;

    private static final int OUT_OF_RANGE = 1;
    private static final int AS_MANY_AS_CAN_BE = 2;
    private static final int NO_SUCH_BARREL = 3;
    private static final int NO_SUCH_SOMMELIER = 4;
    private static final int NOT_EMPTY = 5;
    private static final int FEWER_LITRES = 6;
    private static final int LESS_ROOM = 7;
    private static final int BOTH_ONE = 8;
    private static final int UNLIKE_STORMS = 9;
    private static final int LESS_HAIL = 10;
    private static final int NO_SOMMELIERS = 11;
    private static final int NO_MOSS = 12;

    /** No change answers less than 0, so this one number can tell that it was refused. */
    private static final int REFUSED = -1;
    private static final int NO_STORM = -1;
    private static final int NO_FAULT = -1;
    private static final int NO_REASON = 0;

    /** What a command of a text begins with. */
    private static final String LETTERS = "sbxphmtlgcy";
    private static final char ONE_DIGIT = 'd';
    private static final char LITRES = 'n';

    private final Work work = new Work();
    private final Cellar now = work.cellar;
    private final Refusal refusal = work.refusal;
    private final Cellar saved = new Cellar();
    private boolean hasSaved = false;
    private final History history = new History();
    private final Text text = new Text();
    private int fault = NO_FAULT;
    private final StringBuilder written = new StringBuilder();

    public RainCellar() {
    }

    public int storm(int strength, int hail) throws UnsupportedOperationException {
        history.setAside(now);
        return kept(work.letStormBy(strength, hail));
    }

    public int barrel(int roof) throws UnsupportedOperationException {
        history.setAside(now);
        return kept(work.placeBarrel(roof));
    }

    public int takeAway(int barrel) throws UnsupportedOperationException {
        history.setAside(now);
        return kept(work.removeBarrel(barrel));
    }

    public int pour(int from, int to, int litres) throws UnsupportedOperationException {
        history.setAside(now);
        return kept(work.pourOver(from, to, litres));
    }

    public int hail(int barrel, int litres) throws UnsupportedOperationException {
        history.setAside(now);
        return kept(work.adulterate(barrel, litres));
    }

    public int sommelier(int palate, boolean isStrict) throws UnsupportedOperationException {
        history.setAside(now);
        return kept(work.letCome(palate, isStrict));
    }

    public int leave(int sommelier) throws UnsupportedOperationException {
        history.setAside(now);
        return kept(work.letLeave(sommelier));
    }

    public int drink(int barrel) throws UnsupportedOperationException {
        history.setAside(now);
        return kept(work.letPanelDrink(barrel));
    }

    public int clear(int roof) throws UnsupportedOperationException {
        history.setAside(now);
        return kept(work.clearRoof(roof));
    }

    public int year() {
        history.setAside(now);
        int melted = work.letYearGoBy();
        history.keepAside();
        return melted;
    }

    public int roofOf(int roof, int what) throws IndexOutOfBoundsException, IllegalArgumentException {
        if (isOutside(roof, 0, ROOFS - 1)) {
            throw new IndexOutOfBoundsException();
        }
        switch (what) {
            case 0: return now.moss[roof];
            case 1: return now.barrelsUnder(roof);
            case 2: return now.emptyUnder(roof);
            case 3: return now.litresUnder(roof);
            default: throw new IllegalArgumentException();
        }
    }

    public int barrelOf(int barrel, int what) throws IndexOutOfBoundsException, IllegalArgumentException {
        Barrel asked = existing(barrel);
        switch (what) {
            case 0: return asked.roof;
            case 1: return asked.litres;
            case 2: return asked.hail;
            case 3: return asked.storm;
            case 4: return asked.moss;
            case 5: return asked.ageIn(now.year);
            case 6: return asked.hailPart();
            default: throw new IllegalArgumentException();
        }
    }

    public int note(int barrel) throws IndexOutOfBoundsException, NoSuchElementException {
        return now.noteOf(filled(barrel));
    }

    public int noteAgain(int barrel) throws IndexOutOfBoundsException, NoSuchElementException {
        Barrel asked = filled(barrel);
        return asked.noteYearByYear(asked.ageIn(now.year));
    }

    public int noteIn(int barrel, int years)
            throws IndexOutOfBoundsException, NoSuchElementException, IllegalArgumentException {
        Barrel asked = filled(barrel);
        if (isOutside(years, 0, MOST_YEARS_AHEAD)) {
            throw new IllegalArgumentException();
        }
        return asked.noteAtAge(asked.ageIn(now.year) + years);
    }

    public boolean notices(int sommelier, int barrel) throws IndexOutOfBoundsException {
        if (!now.panel.has(sommelier)) {
            throw new IndexOutOfBoundsException();
        }
        return now.panel.doesNotice(sommelier, existing(barrel).hailPart());
    }

    public int noticing(int barrel) throws IndexOutOfBoundsException {
        return now.panel.thoseWhoNotice(existing(barrel).hailPart());
    }

    public int hidden(int barrel) throws IndexOutOfBoundsException, NoSuchElementException {
        Barrel asked = unnoticed(barrel);
        for (int litres = now.mostHailFor(asked); litres > 0; litres--) {
            if (now.panel.thoseWhoNotice(asked.hailPartWith(litres)) == 0) {
                return litres;
            }
        }
        return 0;
    }

    public int hiddenAgain(int barrel) throws IndexOutOfBoundsException, NoSuchElementException {
        Barrel asked = unnoticed(barrel);
        int most = now.mostHailFor(asked);
        int litres = 0;
        while (litres < most && !now.panel.doesBestNotice(asked.hailPartWith(litres + 1))) {
            litres++;
        }
        return litres;
    }

    public int wouldCatch(int strength) throws IllegalArgumentException {
        if (isOutside(strength, 1, MOST_STRENGTH)) {
            throw new IllegalArgumentException();
        }
        return now.litresIntoBarrels(strength);
    }

    public int wouldLose(int strength) throws IllegalArgumentException {
        if (isOutside(strength, 1, MOST_STRENGTH)) {
            throw new IllegalArgumentException();
        }
        return litresOnRoofs(strength) - now.litresIntoBarrels(strength);
    }

    public int vintage(int storm) throws NoSuchElementException {
        if (isOutside(storm, 0, now.stormCount - 1)) {
            throw new NoSuchElementException();
        }
        return now.litresOfStorm(storm);
    }

    public int stormOf(int storm, int what) throws NoSuchElementException, IllegalArgumentException {
        if (!now.isLateStorm(storm)) {
            throw new NoSuchElementException();
        }
        Rainfall asked = now.rainfallOf(storm);
        switch (what) {
            case 0: return asked.strength;
            case 1: return asked.year;
            case 2: return asked.litres;
            default: throw new IllegalArgumentException();
        }
    }

    public boolean canPour(int from, int to) throws IndexOutOfBoundsException {
        Barrel one = existing(from);
        Barrel other = existing(to);
        return from != to && one.litres > 0 && other.room() > 0 && other.isFreeFor(one.storm);
    }

    public int ranked(int measure, int place) throws IllegalArgumentException, NoSuchElementException {
        if (isOutside(measure, 0, 3)) {
            throw new IllegalArgumentException();
        }
        for (int barrel = 0; barrel < now.barrelCount; barrel++) {
            if (now.placeOf(barrel, measure) == place) {
                return barrel;
            }
        }
        throw new NoSuchElementException();
    }

    public boolean isEven() {
        return now.cameIn + now.hailPutIn == now.litresInBarrels() + now.drunk + now.pouredAway;
    }

    public int append(char character) throws IllegalStateException {
        if (text.length >= MOST_SIGNS) {
            throw new IllegalStateException();
        }
        text.add(character);
        return text.length;
    }

    public int commands() throws IllegalArgumentException, UnsupportedOperationException {
        fault = text.read();
        text.makeEmpty();
        if (fault != NO_FAULT) {
            throw new IllegalArgumentException();
        }
        history.setAside(now);
        for (int command = 0; command < text.commandCount; command++) {
            if (carryOut(command) == REFUSED) {
                now.copy(history.aside());
                refusal.command = command;
                throw new UnsupportedOperationException();
            }
        }
        history.keepAside();
        return text.commandCount;
    }

    public int faultPosition() {
        return fault;
    }

    public int reason(int what) throws IllegalArgumentException, NoSuchElementException {
        if (isOutside(what, 0, 2)) {
            throw new IllegalArgumentException();
        }
        if (refusal.cause == NO_REASON) {
            throw new NoSuchElementException();
        }
        switch (what) {
            case 0: return refusal.cause;
            case 1: return refusal.detail;
            default: return refusal.command;
        }
    }

    public int line(int barrel) throws IndexOutOfBoundsException {
        Barrel asked = existing(barrel);
        written.setLength(0);
        written.append(asked.roof).append(':').append(asked.litres);
        if (!asked.isEmpty()) {
            written.append('#').append(asked.storm).append('m').append(asked.moss);
        }
        if (asked.hail > 0) {
            written.append('h').append(asked.hail);
        }
        return written.length();
    }

    public int panel() {
        written.setLength(0);
        for (int k = 0; k < now.panel.size; k++) {
            if (k > 0) {
                written.append(' ');
            }
            written.append(now.panel.areStrict[k] ? 't' : 'm').append(now.panel.palates[k]);
        }
        return written.length();
    }

    public char character(int index) throws IndexOutOfBoundsException {
        if (isOutside(index, 0, written.length() - 1)) {
            throw new IndexOutOfBoundsException();
        }
        return written.charAt(index);
    }

    public double meanNote() throws ArithmeticException {
        int notes = 0;
        int full = 0;
        for (int k = 0; k < now.barrelCount; k++) {
            notes += now.noteOf(now.barrels[k]);
            full += now.barrels[k].isEmpty() ? 0 : 1;
        }
        if (full == 0) {
            throw new ArithmeticException();
        }
        return (double) notes / (double) full;
    }

    public float hailShare() throws ArithmeticException {
        int litres = now.litresInBarrels();
        if (litres == 0) {
            throw new ArithmeticException();
        }
        return (float) now.hailInBarrels() / (float) litres;
    }

    public int account(int what) throws IllegalArgumentException {
        switch (what) {
            case 0: return now.barrelCount;
            case 1: return now.litresInBarrels();
            case 2: return now.bucket;
            case 3: return now.panel.size;
            case 4: return now.year;
            case 5: return now.stormCount;
            case 6: return now.lost;
            case 7: return now.drunk;
            case 8: return now.pouredAway;
            case 9: return now.exposed;
            case 10: return history.size;
            case 11: return text.length;
            default: throw new IllegalArgumentException();
        }
    }

    public int undo() throws IllegalStateException {
        if (history.size == 0) {
            throw new IllegalStateException();
        }
        now.copy(history.takeLatest());
        return history.size;
    }

    public int save() {
        saved.copy(now);
        hasSaved = true;
        return now.barrelCount;
    }

    public int restore() throws IllegalStateException {
        if (!hasSaved) {
            throw new IllegalStateException();
        }
        now.copy(saved);
        history.forget();
        return now.barrelCount;
    }

    /** Ends a change that began with history.setAside: only one that was not refused can be undone. */
    private int kept(int answer) {
        if (answer == REFUSED) {
            throw new UnsupportedOperationException();
        }
        history.keepAside();
        return answer;
    }

    private Barrel existing(int barrel) {
        if (!now.hasBarrel(barrel)) {
            throw new IndexOutOfBoundsException();
        }
        return now.barrels[barrel];
    }

    private Barrel filled(int barrel) {
        Barrel asked = existing(barrel);
        if (asked.isEmpty()) {
            throw new NoSuchElementException();
        }
        return asked;
    }

    private Barrel unnoticed(int barrel) {
        Barrel asked = filled(barrel);
        if (now.panel.thoseWhoNotice(asked.hailPart()) != 0) {
            throw new NoSuchElementException();
        }
        return asked;
    }

    private int carryOut(int command) {
        int first = text.numberOf(command, 0);
        int second = text.numberOf(command, 1);
        switch (text.kinds[command]) {
            case 's': return work.letStormBy(first, second);
            case 'b': return work.placeBarrel(first);
            case 'x': return work.removeBarrel(first);
            case 'p': return work.pourOver(first, second, text.numberOf(command, 2));
            case 'h': return work.adulterate(first, second);
            case 'm': return work.letCome(first, false);
            case 't': return work.letCome(first, true);
            case 'l': return work.letLeave(first);
            case 'g': return work.letPanelDrink(first);
            case 'c': return work.clearRoof(first);
            default: return work.letYearGoBy();
        }
    }

    private static boolean isOutside(int number, int least, int most) {
        return number < least || number > most;
    }

    private static int litresOnRoof(int roof, int strength) {
        return (roof + 1) * strength;
    }

    private static int litresOnRoofs(int strength) {
        int litres = 0;
        for (int roof = 0; roof < ROOFS; roof++) {
            litres += litresOnRoof(roof, strength);
        }
        return litres;
    }

    /** One barrel; hail counts among its litres. An empty one has no vintage: its storm is NO_STORM. */
    private static final class Barrel {
        int roof = 0;
        int litres = 0;
        int hail = 0;
        int storm = NO_STORM;
        int stormYear = 0;
        int moss = 0;

        void copy(Barrel other) {
            roof = other.roof;
            litres = other.litres;
            hail = other.hail;
            copyVintage(other);
        }

        void copyVintage(Barrel other) {
            storm = other.storm;
            stormYear = other.stormYear;
            moss = other.moss;
        }

        void makeEmpty() {
            litres = 0;
            hail = 0;
            storm = NO_STORM;
            stormYear = 0;
            moss = 0;
        }

        boolean isEmpty() {
            return litres == 0;
        }

        boolean isFreeFor(int otherStorm) {
            return isEmpty() || storm == otherStorm;
        }

        int room() {
            return BARREL_ROOM - litres;
        }

        int hailPart() {
            return hailPartWith(0);
        }

        int hailPartWith(int moreHail) {
            int all = litres + moreHail;
            return all <= 0 ? 0 : 100 * (hail + moreHail) / all;
        }

        int ageIn(int year) {
            return isEmpty() ? 0 : year - stormYear;
        }

        int noteAtAge(int age) {
            return noteOfTaste(Math.min(moss + age / 2, MOST_TASTE));
        }

        int noteYearByYear(int age) {
            int taste = moss;
            for (int goneBy = 1; goneBy <= age; goneBy++) {
                if (goneBy % 2 == 0 && taste < MOST_TASTE) {
                    taste++;
                }
            }
            return noteOfTaste(taste);
        }

        private int noteOfTaste(int taste) {
            return taste * (100 - hailPart()) / 100;
        }

        void pourIn(Barrel other, int poured) {
            if (isEmpty()) {
                copyVintage(other);
            }
            hail += other.takeOut(poured);
            litres += poured;
        }

        /** Returns how much hail was in what is taken. */
        int takeOut(int taken) {
            int takenHail = hailIn(taken);
            litres -= taken;
            hail -= takenHail;
            if (litres == 0) {
                makeEmpty();
            }
            return takenHail;
        }

        /** The part is rounded down, so it alone could promise more rain than there is. */
        private int hailIn(int taken) {
            int rain = litres - hail;
            return Math.max(taken * hailPart() / 100, taken - rain);
        }
    }

    /** What is told of one of the latest storms. */
    private static final class Rainfall {
        int strength = 0;
        int year = 0;
        int litres = 0;

        void copy(Rainfall other) {
            strength = other.strength;
            year = other.year;
            litres = other.litres;
        }
    }

    /** The sommeliers, by their numbers. */
    private static final class Panel {
        final int[] palates = new int[MOST_SOMMELIERS];
        final boolean[] areStrict = new boolean[MOST_SOMMELIERS];
        int size = 0;

        void copy(Panel other) {
            for (int k = 0; k < MOST_SOMMELIERS; k++) {
                palates[k] = other.palates[k];
                areStrict[k] = other.areStrict[k];
            }
            size = other.size;
        }

        boolean has(int sommelier) {
            return sommelier >= 0 && sommelier < size;
        }

        void add(int palate, boolean isStrict) {
            palates[size] = palate;
            areStrict[size] = isStrict;
            size++;
        }

        void remove(int sommelier) {
            for (int k = sommelier; k + 1 < size; k++) {
                palates[k] = palates[k + 1];
                areStrict[k] = areStrict[k + 1];
            }
            size--;
        }

        boolean doesNotice(int sommelier, int hailPart) {
            return doesPalateNotice(mildPalate(sommelier), hailPart);
        }

        /** Returns the set of them, a bit for each. */
        int thoseWhoNotice(int hailPart) {
            int set = 0;
            for (int k = 0; k < size; k++) {
                if (doesNotice(k, hailPart)) {
                    set |= 1 << k;
                }
            }
            return set;
        }

        boolean doesBestNotice(int hailPart) {
            int best = 0;
            for (int k = 0; k < size; k++) {
                best = Math.max(best, mildPalate(k));
            }
            return size > 0 && doesPalateNotice(best, hailPart);
        }

        private int mildPalate(int sommelier) {
            return palates[sommelier] + (areStrict[sommelier] ? STRICT_BY : 0);
        }

        private static boolean doesPalateNotice(int palate, int hailPart) {
            return hailPart > 0 && hailPart > 50 - 5 * palate;
        }
    }

    /** All that can be undone, saved and restored. */
    private static final class Cellar {
        final int[] moss = new int[ROOFS];
        final Barrel[] barrels = new Barrel[MOST_BARRELS];
        int barrelCount = 0;
        final Panel panel = new Panel();
        final Rainfall[] rainfalls = new Rainfall[KEPT_STORMS];
        int stormCount = 0;
        int bucket = 0;
        int year = 0;
        int cameIn = 0;
        int hailPutIn = 0;
        int lost = 0;
        int drunk = 0;
        int pouredAway = 0;
        int exposed = 0;

        Cellar() {
            for (int roof = 0; roof < ROOFS; roof++) {
                moss[roof] = FIRST_MOSS;
            }
            for (int k = 0; k < MOST_BARRELS; k++) {
                barrels[k] = new Barrel();
            }
            for (int k = 0; k < KEPT_STORMS; k++) {
                rainfalls[k] = new Rainfall();
            }
        }

        void copy(Cellar other) {
            for (int roof = 0; roof < ROOFS; roof++) {
                moss[roof] = other.moss[roof];
            }
            for (int k = 0; k < MOST_BARRELS; k++) {
                barrels[k].copy(other.barrels[k]);
            }
            for (int k = 0; k < KEPT_STORMS; k++) {
                rainfalls[k].copy(other.rainfalls[k]);
            }
            panel.copy(other.panel);
            copyCounts(other);
        }

        private void copyCounts(Cellar other) {
            barrelCount = other.barrelCount;
            stormCount = other.stormCount;
            bucket = other.bucket;
            year = other.year;
            cameIn = other.cameIn;
            hailPutIn = other.hailPutIn;
            lost = other.lost;
            drunk = other.drunk;
            pouredAway = other.pouredAway;
            exposed = other.exposed;
        }

        boolean hasBarrel(int barrel) {
            return barrel >= 0 && barrel < barrelCount;
        }

        void addBarrel(int roof) {
            barrels[barrelCount].makeEmpty();
            barrels[barrelCount].roof = roof;
            barrelCount++;
        }

        void dropBarrel(int barrel) {
            for (int k = barrel; k + 1 < barrelCount; k++) {
                barrels[k].copy(barrels[k + 1]);
            }
            barrelCount--;
        }

        int barrelsUnder(int roof) {
            int under = 0;
            for (int k = 0; k < barrelCount; k++) {
                under += barrels[k].roof == roof ? 1 : 0;
            }
            return under;
        }

        int emptyUnder(int roof) {
            int empty = 0;
            for (int k = 0; k < barrelCount; k++) {
                empty += barrels[k].roof == roof && barrels[k].isEmpty() ? 1 : 0;
            }
            return empty;
        }

        int litresUnder(int roof) {
            int litres = 0;
            for (int k = 0; k < barrelCount; k++) {
                litres += barrels[k].roof == roof ? barrels[k].litres : 0;
            }
            return litres;
        }

        int litresInBarrels() {
            int litres = 0;
            for (int k = 0; k < barrelCount; k++) {
                litres += barrels[k].litres;
            }
            return litres;
        }

        int hailInBarrels() {
            int hail = 0;
            for (int k = 0; k < barrelCount; k++) {
                hail += barrels[k].hail;
            }
            return hail;
        }

        int litresOfStorm(int storm) {
            int litres = 0;
            for (int k = 0; k < barrelCount; k++) {
                litres += barrels[k].storm == storm ? barrels[k].litres : 0;
            }
            return litres;
        }

        int litresIntoBarrels(int strength) {
            int litres = 0;
            for (int roof = 0; roof < ROOFS; roof++) {
                litres += Math.min(litresOnRoof(roof, strength), BARREL_ROOM * emptyUnder(roof));
            }
            return litres;
        }

        int mostHailFor(Barrel barrel) {
            return Math.min(barrel.room(), bucket);
        }

        boolean isLateStorm(int storm) {
            return storm >= 0 && storm < stormCount && storm >= stormCount - KEPT_STORMS;
        }

        Rainfall rainfallOf(int storm) {
            return rainfalls[Math.floorMod(storm, KEPT_STORMS)];
        }

        /** An empty barrel has neither moss nor age, so its note is 0. */
        int noteOf(Barrel barrel) {
            return barrel.noteAtAge(barrel.ageIn(year));
        }

        int measureOf(int barrel, int measure) {
            Barrel asked = barrels[barrel];
            switch (measure) {
                case 0: return asked.litres;
                case 1: return noteOf(asked);
                case 2: return asked.ageIn(year);
                default: return asked.hailPart();
            }
        }

        /** Counts the barrels that come before this one, which is its place. */
        int placeOf(int barrel, int measure) {
            int own = measureOf(barrel, measure);
            int before = 0;
            for (int k = 0; k < barrelCount; k++) {
                int other = measureOf(k, measure);
                before += other > own || (other == own && k < barrel) ? 1 : 0;
            }
            return before;
        }
    }

    /** Why the latest refused call was refused; it stays when changes are undone. */
    private static final class Refusal {
        int cause = NO_REASON;
        int detail = 0;
        int command = 0;

        int because(int newCause, int newDetail) {
            cause = newCause;
            detail = newDetail;
            command = 0;
            return REFUSED;
        }
    }

    /** The changes of a cellar; each that is refused answers REFUSED and leaves the cellar as it was. */
    private static final class Work {
        final Cellar cellar = new Cellar();
        final Refusal refusal = new Refusal();

        int letStormBy(int strength, int hail) {
            if (isOutside(strength, 1, MOST_STRENGTH) || isOutside(hail, 0, MOST_STORM_HAIL)) {
                return refusal.because(OUT_OF_RANGE, 0);
            }
            int came = 0;
            for (int roof = 0; roof < ROOFS; roof++) {
                came += fillUnder(roof, litresOnRoof(roof, strength));
                cellar.moss[roof] = Math.max(cellar.moss[roof] - strength / 3, 0);
            }
            cellar.cameIn += came;
            cellar.lost += litresOnRoofs(strength) - came;
            cellar.bucket = Math.min(cellar.bucket + 2 * hail, BUCKET_ROOM);
            tell(strength, came);
            return came;
        }

        /** Returns how much of the water came into barrels. */
        private int fillUnder(int roof, int water) {
            int left = water;
            for (int k = 0; k < cellar.barrelCount; k++) {
                Barrel barrel = cellar.barrels[k];
                if (left > 0 && barrel.roof == roof && barrel.isEmpty()) {
                    barrel.litres = Math.min(left, BARREL_ROOM);
                    barrel.storm = cellar.stormCount;
                    barrel.stormYear = cellar.year;
                    barrel.moss = cellar.moss[roof];
                    left -= barrel.litres;
                }
            }
            return water - left;
        }

        private void tell(int strength, int came) {
            Rainfall rainfall = cellar.rainfallOf(cellar.stormCount);
            rainfall.strength = strength;
            rainfall.year = cellar.year;
            rainfall.litres = came;
            cellar.stormCount++;
        }

        int placeBarrel(int roof) {
            if (isOutside(roof, 0, ROOFS - 1)) {
                return refusal.because(OUT_OF_RANGE, 0);
            }
            if (cellar.barrelCount >= MOST_BARRELS) {
                return refusal.because(AS_MANY_AS_CAN_BE, MOST_BARRELS);
            }
            cellar.addBarrel(roof);
            return cellar.barrelCount - 1;
        }

        int removeBarrel(int barrel) {
            if (!cellar.hasBarrel(barrel)) {
                return refusal.because(NO_SUCH_BARREL, cellar.barrelCount);
            }
            if (!cellar.barrels[barrel].isEmpty()) {
                return refusal.because(NOT_EMPTY, cellar.barrels[barrel].litres);
            }
            cellar.dropBarrel(barrel);
            return cellar.barrelCount;
        }

        int pourOver(int from, int to, int litres) {
            if (!cellar.hasBarrel(from) || !cellar.hasBarrel(to)) {
                return refusal.because(NO_SUCH_BARREL, cellar.barrelCount);
            }
            if (from == to) {
                return refusal.because(BOTH_ONE, from);
            }
            if (isOutside(litres, 1, BARREL_ROOM)) {
                return refusal.because(OUT_OF_RANGE, 0);
            }
            Barrel one = cellar.barrels[from];
            Barrel other = cellar.barrels[to];
            if (one.litres < litres) {
                return refusal.because(FEWER_LITRES, one.litres);
            }
            if (!other.isFreeFor(one.storm)) {
                return refusal.because(UNLIKE_STORMS, other.storm);
            }
            if (other.room() < litres) {
                return refusal.because(LESS_ROOM, other.room());
            }
            other.pourIn(one, litres);
            return other.litres;
        }

        int adulterate(int barrel, int litres) {
            if (!cellar.hasBarrel(barrel)) {
                return refusal.because(NO_SUCH_BARREL, cellar.barrelCount);
            }
            if (isOutside(litres, 1, MOST_HAIL_LITRES)) {
                return refusal.because(OUT_OF_RANGE, 0);
            }
            Barrel adulterated = cellar.barrels[barrel];
            if (adulterated.isEmpty()) {
                return refusal.because(FEWER_LITRES, 0);
            }
            if (cellar.bucket < litres) {
                return refusal.because(LESS_HAIL, cellar.bucket);
            }
            if (adulterated.room() < litres) {
                return refusal.because(LESS_ROOM, adulterated.room());
            }
            adulterated.litres += litres;
            adulterated.hail += litres;
            cellar.bucket -= litres;
            cellar.hailPutIn += litres;
            return adulterated.hailPart();
        }

        int letCome(int palate, boolean isStrict) {
            if (isOutside(palate, 0, MOST_PALATE)) {
                return refusal.because(OUT_OF_RANGE, 0);
            }
            if (cellar.panel.size >= MOST_SOMMELIERS) {
                return refusal.because(AS_MANY_AS_CAN_BE, MOST_SOMMELIERS);
            }
            cellar.panel.add(palate, isStrict);
            return cellar.panel.size - 1;
        }

        int letLeave(int sommelier) {
            if (!cellar.panel.has(sommelier)) {
                return refusal.because(NO_SUCH_SOMMELIER, cellar.panel.size);
            }
            cellar.panel.remove(sommelier);
            return cellar.panel.size;
        }

        int letPanelDrink(int barrel) {
            if (!cellar.hasBarrel(barrel)) {
                return refusal.because(NO_SUCH_BARREL, cellar.barrelCount);
            }
            int glasses = cellar.panel.size;
            if (glasses == 0) {
                return refusal.because(NO_SOMMELIERS, 0);
            }
            Barrel opened = cellar.barrels[barrel];
            if (opened.litres < glasses) {
                return refusal.because(FEWER_LITRES, opened.litres);
            }
            // The glasses themselves change the barrel, so what is tasted is told ahead of them.
            int answer = cellar.noteOf(opened) * glasses;
            boolean isExposed = cellar.panel.thoseWhoNotice(opened.hailPart()) != 0;
            opened.takeOut(glasses);
            cellar.drunk += glasses;
            if (!isExposed) {
                return answer;
            }
            cellar.pouredAway += opened.litres;
            cellar.exposed++;
            opened.makeEmpty();
            return 0;
        }

        int clearRoof(int roof) {
            if (isOutside(roof, 0, ROOFS - 1)) {
                return refusal.because(OUT_OF_RANGE, 0);
            }
            int cleared = cellar.moss[roof];
            if (cleared == 0) {
                return refusal.because(NO_MOSS, roof);
            }
            cellar.moss[roof] = 0;
            return cleared;
        }

        int letYearGoBy() {
            int melted = cellar.bucket;
            for (int roof = 0; roof < ROOFS; roof++) {
                cellar.moss[roof] = Math.min(cellar.moss[roof] + 1, MOST_MOSS);
            }
            cellar.bucket = 0;
            cellar.year++;
            return melted;
        }
    }

    /**
     * What there was before each of the latest changes. The ring has one cellar more than can be undone, so that
     * what is set aside for a change that is refused then does not cost the oldest one.
     */
    private static final class History {
        private static final int RING = KEPT_CHANGES + 1;

        private final Cellar[] ring = new Cellar[RING];
        private int first = 0;
        int size = 0;

        History() {
            for (int k = 0; k < RING; k++) {
                ring[k] = new Cellar();
            }
        }

        Cellar aside() {
            return ring[Math.floorMod(first + size, RING)];
        }

        void setAside(Cellar cellar) {
            aside().copy(cellar);
        }

        void keepAside() {
            if (size < KEPT_CHANGES) {
                size++;
            } else {
                first = Math.floorMod(first + 1, RING);
            }
        }

        Cellar takeLatest() {
            size--;
            return aside();
        }

        void forget() {
            size = 0;
        }
    }

    /** The text buffer, and the commands that were read from it. */
    private static final class Text {
        private final char[] signs = new char[MOST_SIGNS];
        int length = 0;
        final char[] kinds = new char[MOST_SIGNS];
        private final int[] numbers = new int[MOST_SIGNS * NUMBERS_A_COMMAND];
        int commandCount = 0;
        private int at = 0;
        private int numberCount = 0;

        void add(char sign) {
            signs[length] = sign;
            length++;
        }

        /** The commands that were read stay until the next text is read. */
        void makeEmpty() {
            length = 0;
        }

        int numberOf(int command, int which) {
            return numbers[command * NUMBERS_A_COMMAND + which];
        }

        /** Returns the fault position: reading stops at the first sign that can't go on, or at the end. */
        int read() {
            at = 0;
            commandCount = 0;
            for (int read = 0; read < MOST_SIGNS && readCommand(); read++) {
                if (at == length) {
                    return NO_FAULT;
                }
                if (!readSign(';')) {
                    return at;
                }
            }
            return at;
        }

        private boolean readCommand() {
            if (at >= length || LETTERS.indexOf(signs[at]) < 0) {
                return false;
            }
            String form = formOf(signs[at]);
            kinds[commandCount] = signs[at];
            numberCount = 0;
            at++;
            for (int k = 0; k < form.length(); k++) {
                if (!readPart(form.charAt(k))) {
                    return false;
                }
            }
            commandCount++;
            return true;
        }

        /** Returns what has to follow the letter of a command. */
        private static String formOf(char letter) {
            switch (letter) {
                case 's': return "d*d";
                case 'p': return "d>d=n";
                case 'h': return "d=n";
                case 'y': return "";
                default: return "d";
            }
        }

        private boolean readPart(char part) {
            switch (part) {
                case ONE_DIGIT: return readNumber(1);
                case LITRES: return readNumber(2);
                default: return readSign(part);
            }
        }

        private boolean readSign(char due) {
            if (at >= length || signs[at] != due) {
                return false;
            }
            at++;
            return true;
        }

        private boolean readNumber(int mostDigits) {
            int number = 0;
            int digits = 0;
            while (digits < mostDigits && at < length && signs[at] >= '0' && signs[at] <= '9') {
                number = 10 * number + (signs[at] - '0');
                digits++;
                at++;
            }
            if (digits == 0) {
                return false;
            }
            numbers[commandCount * NUMBERS_A_COMMAND + numberCount] = number;
            numberCount++;
            return true;
        }
    }
}
