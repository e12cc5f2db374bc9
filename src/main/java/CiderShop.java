/** The books of a cider press shop. README.md says how to use it; the comments here say why. */
public final class CiderShop {
    public static final int INVALID_ARGUMENT = -1;
    public static final int ILLEGAL_STATE = -2;
    public static final int CAPACITY_EXCEEDED = -3;
    public static final int NONE = -9;

    private static final int VARIETIES = 6;
    private static final int LABELS = 4;
    private static final int MOST_LOTS = 8;
    private static final int MOST_TANKS = 6;
    private static final int MOST_MASS = 20000;
    private static final int MOST_ROOM = 5000;
    private static final int MOST_SIZE = 10;
    private static final int MOST_BOTTLES = 5000;
    private static final int MOST_DAYS_AHEAD = 60;
    private static final int MOST_SAVED = 6;
    private static final int MOST_CHARACTERS = 100;

    /** The present state, the saved ones, and one to draft the next edit in. */
    private static final int PAGES = MOST_SAVED + 2;

    private static final int REASON_NO_JUICE = 1;
    private static final int REASON_SUGAR_LOW = 2;
    private static final int REASON_SUGAR_HIGH = 3;
    private static final int REASON_ACID_LOW = 4;
    private static final int REASON_ACID_HIGH = 5;
    private static final int REASON_HAZE = 6;
    private static final int REASON_LITTLE_JUICE = 7;
    private static final int REASON_LITTLE_LOT = 11;
    private static final int REASON_NO_HEAP = 12;
    private static final int REASON_JUICE_IN_TANK = 13;

    private static final int BOUGHT = 0;
    private static final int WATER = 1;
    private static final int DRIED = 2;
    private static final int LEES_AWAY = 3;
    private static final int POMACE_SOLD = 4;
    private static final int BOTTLED = 5;
    private static final int POURED = 6;
    private static final int SUMS = 7;

    private static final int SCRIPT_ERROR = -10;
    private static final int COMMAND_ERROR = -1000;

    private final Books[] pages = new Books[PAGES];
    private final Tank trial = new Tank();
    private final Script script = new Script();
    private int page = 0;
    private int saved = 0;
    private int reason = 0;

    public CiderShop() {
        for (int i = 0; i < PAGES; i++) {
            pages[i] = new Books();
        }
    }

    // ---- settings

    public int setVariety(int variety, int yields, int sugar, int acid) {
        Books draft = draft();
        return finish(draft, draft.changeVariety(variety, yields, sugar, acid));
    }

    public int setRates(int w, int h, int s, int f) {
        Books draft = draft();
        return finish(draft, draft.changeRates(w, h, s, f));
    }

    public int setLabel(int label, int leastSugar, int mostSugar, int leastAcid, int mostAcid, int mostHaze) {
        Books draft = draft();
        return finish(draft, draft.changeLabel(label, leastSugar, mostSugar, leastAcid, mostAcid, mostHaze));
    }

    // ---- lots and tanks

    public int buy(int variety, int mass) {
        Books draft = draft();
        return finish(draft, draft.buyLot(variety, mass));
    }

    public int addTank(int room) {
        Books draft = draft();
        return finish(draft, draft.openTank(room));
    }

    public int press(int lot, int mass, int tank) {
        Books draft = draft();
        return finish(draft, draft.pressLot(lot, mass, tank));
    }

    public int wet(int water, int tank) {
        Books draft = draft();
        return finish(draft, draft.wetHeap(water, tank));
    }

    public int sellPomace() {
        Books draft = draft();
        return finish(draft, draft.sellHeap());
    }

    public int move(int from, int amount, int to) {
        Books draft = draft();
        return finish(draft, draft.moveJuice(from, amount, to));
    }

    public int rack(int from, int to) {
        Books draft = draft();
        return finish(draft, draft.rackJuice(from, to));
    }

    public int clean(int tank) {
        Books draft = draft();
        return finish(draft, draft.cleanTank(tank));
    }

    public int pour(int tank) {
        Books draft = draft();
        return finish(draft, draft.pourJuice(tank));
    }

    public int bottle(int tank, int label, int size, int count) {
        Books draft = draft();
        return finish(draft, draft.bottleJuice(tank, label, size, count));
    }

    public int day() {
        Books draft = draft();
        return finish(draft, draft.passDay());
    }

    // ---- script

    public int appendCharacter(int character) {
        if (!within(character, 0, 255)) {
            return INVALID_ARGUMENT;
        }
        return script.append((char) character);
    }

    public int clearText() {
        return script.clear();
    }

    public int runScript() {
        if (!script.read()) {
            return SCRIPT_ERROR - script.at;
        }
        Books draft = draft();
        for (int row = 0; row < script.commands; row++) {
            int answer = perform(draft, row);
            if (answer < 0) {
                // The draft is dropped, and finish() sees to the reason of this command.
                finish(draft, answer);
                return COMMAND_ERROR - row;
            }
        }
        script.clear();
        return finish(draft, script.commands);
    }

    // ---- looking

    public int count(int what) {
        Books books = books();
        switch (what) {
            case 0:
                return books.lotCount;
            case 1:
                return books.tankCount;
            case 2:
                return books.heap;
            case 3:
                return books.days;
            case 4:
                return reason;
            case 5:
                return script.length;
            case 6:
                return saved;
            case 7:
                return books.drying;
            case 8:
                return books.pressHaze;
            case 9:
                return books.settling;
            case 10:
                return books.fermentation;
            default:
                return INVALID_ARGUMENT;
        }
    }

    public int lot(int lot, int what) {
        Books books = books();
        if (!books.hasLot(lot) || !within(what, 0, 1)) {
            return INVALID_ARGUMENT;
        }
        return what == 0 ? books.lots[lot].variety : books.lots[lot].mass;
    }

    public int variety(int variety, int what) {
        if (!within(variety, 0, VARIETIES - 1) || !within(what, 0, 2)) {
            return INVALID_ARGUMENT;
        }
        return books().varieties[variety].property(what);
    }

    public int tank(int tank, int what) {
        Books books = books();
        if (!books.hasTank(tank) || !within(what, 0, 7)) {
            return INVALID_ARGUMENT;
        }
        return books.tanks[tank].property(what);
    }

    public int share(int tank, int what) {
        Books books = books();
        if (!books.hasTank(tank) || !within(what, 0, 3)) {
            return INVALID_ARGUMENT;
        }
        Tank seen = books.tanks[tank];
        switch (what) {
            case 0:
                return perThousand(seen.sugar, seen.juice);
            case 1:
                return perThousand(seen.acid, seen.juice);
            case 2:
                return perThousand(seen.haze, seen.juice);
            default:
                return perThousand(seen.alcohol, seen.juice);
        }
    }

    public int why(int tank, int label) {
        Books books = books();
        if (!books.hasTank(tank) || !within(label, 0, LABELS - 1)) {
            return INVALID_ARGUMENT;
        }
        return books.labels[label].reasonAgainst(books.tanks[tank]);
    }

    public int account(int what) {
        return books().sumOf(what);
    }

    public int bottles(int label, int size) {
        if (!within(label, 0, LABELS - 1) || !within(size, 0, MOST_SIZE)) {
            return INVALID_ARGUMENT;
        }
        return books().labels[label].bottled[size];
    }

    // ---- what would be

    public int daysTo(int tank, int label) {
        Books books = books();
        if (!books.hasTank(tank) || !within(label, 0, LABELS - 1)) {
            return INVALID_ARGUMENT;
        }
        trial.copyFrom(books.tanks[tank]);
        for (int days = 0; days <= MOST_DAYS_AHEAD; days++) {
            if (books.labels[label].reasonAgainst(trial) == 0) {
                return days;
            }
            trial.passDay(books.settling, books.fermentation);
        }
        return NONE;
    }

    public int blendFor(int from, int to, int label) {
        Books books = books();
        if (!books.hasTank(from) || !books.hasTank(to) || from == to || !within(label, 0, LABELS - 1)) {
            return INVALID_ARGUMENT;
        }
        Tank source = books.tanks[from];
        Tank target = books.tanks[to];
        Label wanted = books.labels[label];
        int most = Math.min(source.juice, target.left());
        for (int amount = 0; amount <= most; amount++) {
            if (wanted.reasonAgainstBlend(target, source, amount) == 0) {
                return amount;
            }
        }
        return NONE;
    }

    public int undo() {
        if (saved <= 0) {
            return ILLEGAL_STATE;
        }
        page = (page + PAGES - 1) % PAGES;
        saved--;
        return saved;
    }

    // ---- pages

    private Books books() {
        return pages[page];
    }

    private int nextPage() {
        return (page + 1) % PAGES;
    }

    /** A copy of the present state, on the one page that is neither the present one nor saved. */
    private Books draft() {
        Books draft = pages[nextPage()];
        draft.copyFrom(books());
        return draft;
    }

    /** Makes a draft the present state if its edit was not refused; otherwise the draft is dropped. */
    private int finish(Books draft, int answer) {
        if (answer >= 0) {
            page = nextPage();
            saved = Math.min(saved + 1, MOST_SAVED);
            reason = 0;
        } else if (answer == ILLEGAL_STATE) {
            reason = draft.refusal;
        }
        return answer;
    }

    private int perform(Books draft, int row) {
        int first = script.number(row, 1);
        int second = script.number(row, 2);
        int third = script.number(row, 3);
        switch (script.number(row, 0)) {
            case Script.PRESS:
                return draft.pressLot(first, second, third);
            case Script.WET:
                return draft.wetHeap(first, second);
            case Script.MOVE:
                return draft.moveJuice(first, second, third);
            case Script.RACK:
                return draft.rackJuice(first, second);
            case Script.CLEAN:
                return draft.cleanTank(first);
            case Script.BOTTLE:
                return draft.bottleJuice(first, second, third, script.number(row, 4));
            default:
                return draft.passDay();
        }
    }

    // ---- numbers

    private static boolean within(int number, int least, int most) {
        return number >= least && number <= most;
    }

    /** A part of a mass; the long keeps the product whole. */
    private static int thousandths(int mass, int rate) {
        return (int) ((long) mass * rate / 1000);
    }

    private static int perThousand(int x, int juice) {
        if (juice <= 0) {
            return NONE;
        }
        return (int) ((long) x * 1000 / juice);
    }

    /** A kind of apples. */
    private static final class Variety {
        int yields = 600;
        int sugar = 100;
        int acid = 50;

        void copyFrom(Variety other) {
            yields = other.yields;
            sugar = other.sugar;
            acid = other.acid;
        }

        int property(int what) {
            switch (what) {
                case 0:
                    return yields;
                case 1:
                    return sugar;
                default:
                    return acid;
            }
        }
    }

    /** Apples that were bought together. */
    private static final class Lot {
        int variety = 0;
        int mass = 0;

        void copyFrom(Lot other) {
            variety = other.variety;
            mass = other.mass;
        }
    }

    /** A tank, and what is in it. */
    private static final class Tank {
        int room = 0;
        int juice = 0;
        int sugar = 0;
        int acid = 0;
        int haze = 0;
        int lees = 0;
        int alcohol = 0;

        void copyFrom(Tank other) {
            room = other.room;
            juice = other.juice;
            sugar = other.sugar;
            acid = other.acid;
            haze = other.haze;
            lees = other.lees;
            alcohol = other.alcohol;
        }

        int left() {
            return room - juice - lees;
        }

        int property(int what) {
            switch (what) {
                case 0:
                    return room;
                case 1:
                    return juice;
                case 2:
                    return sugar;
                case 3:
                    return acid;
                case 4:
                    return haze;
                case 5:
                    return lees;
                case 6:
                    return alcohol;
                default:
                    return left();
            }
        }

        void fill(int newJuice, int newSugar, int newAcid, int newHaze) {
            juice += newJuice;
            sugar += newSugar;
            acid += newAcid;
            haze += newHaze;
        }

        /** What of x goes along with an amount of the juice. */
        int part(int x, int amount) {
            if (juice <= 0) {
                return 0;
            }
            return (int) ((long) x * amount / juice);
        }

        void give(int amount, Tank to) {
            to.fill(amount, part(sugar, amount), part(acid, amount), part(haze, amount));
            to.alcohol += part(alcohol, amount);
            drop(amount);
        }

        void drop(int amount) {
            sugar -= part(sugar, amount);
            acid -= part(acid, amount);
            haze -= part(haze, amount);
            alcohol -= part(alcohol, amount);
            // Last, since each part is reckoned from the juice that was there before.
            juice -= amount;
        }

        void passDay(int settling, int fermentation) {
            int settled = thousandths(haze, settling);
            haze -= settled;
            juice -= settled;
            lees += settled;
            int fermented = thousandths(sugar, fermentation);
            sugar -= fermented;
            alcohol += fermented;
        }
    }

    /** What a label allows, and what was bottled under it. */
    private static final class Label {
        int leastSugar = 0;
        int mostSugar = 1000;
        int leastAcid = 0;
        int mostAcid = 1000;
        int mostHaze = 20;
        /** The bottles of each size; those of all sizes together stand at 0. */
        final int[] bottled = new int[MOST_SIZE + 1];

        void copyFrom(Label other) {
            leastSugar = other.leastSugar;
            mostSugar = other.mostSugar;
            leastAcid = other.leastAcid;
            mostAcid = other.mostAcid;
            mostHaze = other.mostHaze;
            System.arraycopy(other.bottled, 0, bottled, 0, bottled.length);
        }

        int change(int newLeastSugar, int newMostSugar, int newLeastAcid, int newMostAcid, int newMostHaze) {
            boolean same = leastSugar == newLeastSugar && mostSugar == newMostSugar
                    && leastAcid == newLeastAcid && mostAcid == newMostAcid && mostHaze == newMostHaze;
            leastSugar = newLeastSugar;
            mostSugar = newMostSugar;
            leastAcid = newLeastAcid;
            mostAcid = newMostAcid;
            mostHaze = newMostHaze;
            return same ? 0 : 1;
        }

        int reasonAgainst(Tank tank) {
            return reasonAgainstJuice(tank.juice, tank.sugar, tank.acid, tank.haze);
        }

        /** As if an amount of the source's juice had been moved into the target. */
        int reasonAgainstBlend(Tank target, Tank source, int amount) {
            return reasonAgainstJuice(target.juice + amount,
                    target.sugar + source.part(source.sugar, amount),
                    target.acid + source.part(source.acid, amount),
                    target.haze + source.part(source.haze, amount));
        }

        private int reasonAgainstJuice(int juice, int sugar, int acid, int haze) {
            if (juice <= 0) {
                return REASON_NO_JUICE;
            }
            int sugarShare = perThousand(sugar, juice);
            if (sugarShare < leastSugar) {
                return REASON_SUGAR_LOW;
            }
            if (sugarShare > mostSugar) {
                return REASON_SUGAR_HIGH;
            }
            int acidShare = perThousand(acid, juice);
            if (acidShare < leastAcid) {
                return REASON_ACID_LOW;
            }
            if (acidShare > mostAcid) {
                return REASON_ACID_HIGH;
            }
            return perThousand(haze, juice) > mostHaze ? REASON_HAZE : 0;
        }

        void addBottles(int size, int count) {
            if (within(size, 1, MOST_SIZE)) {
                bottled[size] += count;
                bottled[0] += count;
            }
        }
    }

    /**
     * One whole state; an edit that it refuses leaves it as it was. The rows of lots and tanks that are not there yet
     * hold nothing but zeros, in every state, so days and sums may pass over them as over the others.
     */
    private static final class Books {
        int drying = 3;
        int pressHaze = 40;
        int settling = 200;
        int fermentation = 50;
        int lotCount = 0;
        int tankCount = 0;
        int heap = 0;
        int days = 0;
        /** Why the edit that was tried last was refused; it is no part of the state. */
        int refusal = 0;
        final Variety[] varieties = new Variety[VARIETIES];
        final Label[] labels = new Label[LABELS];
        final Lot[] lots = new Lot[MOST_LOTS];
        final Tank[] tanks = new Tank[MOST_TANKS];
        final int[] sums = new int[SUMS];

        Books() {
            for (int i = 0; i < VARIETIES; i++) {
                varieties[i] = new Variety();
            }
            for (int i = 0; i < LABELS; i++) {
                labels[i] = new Label();
            }
            for (int i = 0; i < MOST_LOTS; i++) {
                lots[i] = new Lot();
            }
            for (int i = 0; i < MOST_TANKS; i++) {
                tanks[i] = new Tank();
            }
        }

        void copyFrom(Books other) {
            drying = other.drying;
            pressHaze = other.pressHaze;
            settling = other.settling;
            fermentation = other.fermentation;
            lotCount = other.lotCount;
            tankCount = other.tankCount;
            heap = other.heap;
            days = other.days;
            for (int i = 0; i < VARIETIES; i++) {
                varieties[i].copyFrom(other.varieties[i]);
            }
            for (int i = 0; i < LABELS; i++) {
                labels[i].copyFrom(other.labels[i]);
            }
            for (int i = 0; i < MOST_LOTS; i++) {
                lots[i].copyFrom(other.lots[i]);
            }
            for (int i = 0; i < MOST_TANKS; i++) {
                tanks[i].copyFrom(other.tanks[i]);
            }
            System.arraycopy(other.sums, 0, sums, 0, SUMS);
        }

        boolean hasLot(int lot) {
            return within(lot, 0, lotCount - 1) && lot < MOST_LOTS;
        }

        boolean hasTank(int tank) {
            return within(tank, 0, tankCount - 1) && tank < MOST_TANKS;
        }

        private int refuse(int why) {
            refusal = why;
            return ILLEGAL_STATE;
        }

        int changeVariety(int variety, int yields, int sugar, int acid) {
            if (!within(variety, 0, VARIETIES - 1) || !within(yields, 300, 800)
                    || !within(sugar, 0, 200) || !within(acid, 0, 100)) {
                return INVALID_ARGUMENT;
            }
            Variety changed = varieties[variety];
            int before = changed.yields;
            changed.yields = yields;
            changed.sugar = sugar;
            changed.acid = acid;
            return before;
        }

        int changeRates(int w, int h, int s, int f) {
            if (!within(w, 0, 20) || !within(h, 0, 100) || !within(s, 0, 500) || !within(f, 0, 300)) {
                return INVALID_ARGUMENT;
            }
            boolean same = drying == w && pressHaze == h && settling == s && fermentation == f;
            drying = w;
            pressHaze = h;
            settling = s;
            fermentation = f;
            return same ? 0 : 1;
        }

        int changeLabel(int label, int leastSugar, int mostSugar, int leastAcid, int mostAcid, int mostHaze) {
            if (!within(label, 0, LABELS - 1) || !within(leastSugar, 0, 1000) || !within(mostSugar, leastSugar, 1000)
                    || !within(leastAcid, 0, 1000) || !within(mostAcid, leastAcid, 1000)
                    || !within(mostHaze, 0, 1000)) {
                return INVALID_ARGUMENT;
            }
            return labels[label].change(leastSugar, mostSugar, leastAcid, mostAcid, mostHaze);
        }

        int buyLot(int variety, int mass) {
            if (!within(variety, 0, VARIETIES - 1) || !within(mass, 1, MOST_MASS)) {
                return INVALID_ARGUMENT;
            }
            if (!within(lotCount, 0, MOST_LOTS - 1)) {
                return CAPACITY_EXCEEDED;
            }
            lots[lotCount].variety = variety;
            lots[lotCount].mass = mass;
            sums[BOUGHT] += mass;
            lotCount++;
            return lotCount - 1;
        }

        int openTank(int room) {
            if (!within(room, 1, MOST_ROOM)) {
                return INVALID_ARGUMENT;
            }
            if (!within(tankCount, 0, MOST_TANKS - 1)) {
                return CAPACITY_EXCEEDED;
            }
            tanks[tankCount].room = room;
            tankCount++;
            return tankCount - 1;
        }

        int pressLot(int lot, int mass, int tank) {
            if (!hasLot(lot) || !hasTank(tank) || !within(mass, 1, MOST_MASS)) {
                return INVALID_ARGUMENT;
            }
            if (lots[lot].mass < mass) {
                return refuse(REASON_LITTLE_LOT);
            }
            int kind = lots[lot].variety;
            if (!within(kind, 0, VARIETIES - 1)) {
                return INVALID_ARGUMENT;
            }
            Variety pressed = varieties[kind];
            int juice = thousandths(mass, pressed.yields);
            if (juice > tanks[tank].left()) {
                return CAPACITY_EXCEEDED;
            }
            lots[lot].mass -= mass;
            heap += mass - juice;
            tanks[tank].fill(juice, thousandths(juice, pressed.sugar), thousandths(juice, pressed.acid),
                    thousandths(juice, pressHaze));
            return juice;
        }

        int wetHeap(int water, int tank) {
            if (!within(water, 0, MOST_MASS) || !hasTank(tank)) {
                return INVALID_ARGUMENT;
            }
            if (heap == 0) {
                return refuse(REASON_NO_HEAP);
            }
            int juice = (heap + water) / 4;
            if (juice > tanks[tank].left()) {
                return CAPACITY_EXCEEDED;
            }
            heap += water - juice;
            sums[WATER] += water;
            tanks[tank].fill(juice, juice / 50, juice / 100, juice / 10);
            return juice;
        }

        int sellHeap() {
            if (heap == 0) {
                return refuse(REASON_NO_HEAP);
            }
            int pomace = heap;
            heap = 0;
            sums[POMACE_SOLD] += pomace;
            return pomace;
        }

        int moveJuice(int from, int amount, int to) {
            if (!hasTank(from) || !hasTank(to) || from == to || !within(amount, 1, MOST_ROOM)) {
                return INVALID_ARGUMENT;
            }
            if (tanks[from].juice < amount) {
                return refuse(REASON_LITTLE_JUICE);
            }
            if (amount > tanks[to].left()) {
                return CAPACITY_EXCEEDED;
            }
            int haze = tanks[from].part(tanks[from].haze, amount);
            tanks[from].give(amount, tanks[to]);
            return haze;
        }

        int rackJuice(int from, int to) {
            if (!hasTank(from) || !hasTank(to) || from == to) {
                return INVALID_ARGUMENT;
            }
            if (tanks[from].juice == 0) {
                return refuse(REASON_NO_JUICE);
            }
            int amount = Math.min(tanks[from].juice, tanks[to].left());
            if (amount <= 0) {
                return CAPACITY_EXCEEDED;
            }
            tanks[from].give(amount, tanks[to]);
            return amount;
        }

        int cleanTank(int tank) {
            if (!hasTank(tank)) {
                return INVALID_ARGUMENT;
            }
            if (tanks[tank].juice > 0) {
                return refuse(REASON_JUICE_IN_TANK);
            }
            int lees = tanks[tank].lees;
            tanks[tank].lees = 0;
            sums[LEES_AWAY] += lees;
            return lees;
        }

        int pourJuice(int tank) {
            if (!hasTank(tank)) {
                return INVALID_ARGUMENT;
            }
            int juice = tanks[tank].juice;
            if (juice == 0) {
                return refuse(REASON_NO_JUICE);
            }
            tanks[tank].drop(juice);
            sums[POURED] += juice;
            return juice;
        }

        int bottleJuice(int tank, int label, int size, int count) {
            if (!hasTank(tank) || !within(label, 0, LABELS - 1) || !within(size, 1, MOST_SIZE)
                    || !within(count, 1, MOST_BOTTLES)) {
                return INVALID_ARGUMENT;
            }
            int against = labels[label].reasonAgainst(tanks[tank]);
            if (against != 0) {
                return refuse(against);
            }
            int amount = size * count;
            if (tanks[tank].juice < amount) {
                return refuse(REASON_LITTLE_JUICE);
            }
            tanks[tank].drop(amount);
            labels[label].addBottles(size, count);
            sums[BOTTLED] += amount;
            return labels[label].bottled[0];
        }

        int passDay() {
            for (int i = 0; i < MOST_LOTS; i++) {
                int dried = thousandths(lots[i].mass, drying);
                lots[i].mass -= dried;
                sums[DRIED] += dried;
            }
            for (int i = 0; i < MOST_TANKS; i++) {
                tanks[i].passDay(settling, fermentation);
            }
            days++;
            return days;
        }

        int sumOf(int what) {
            if (within(what, 0, SUMS - 1)) {
                return sums[what];
            }
            switch (what) {
                case 7:
                    return applesInLots();
                case 8:
                    return heap;
                case 9:
                    return juiceInTanks();
                case 10:
                    return leesInTanks();
                default:
                    return INVALID_ARGUMENT;
            }
        }

        private int applesInLots() {
            int sum = 0;
            for (int i = 0; i < MOST_LOTS; i++) {
                sum += lots[i].mass;
            }
            return sum;
        }

        private int juiceInTanks() {
            int sum = 0;
            for (int i = 0; i < MOST_TANKS; i++) {
                sum += tanks[i].juice;
            }
            return sum;
        }

        private int leesInTanks() {
            int sum = 0;
            for (int i = 0; i < MOST_TANKS; i++) {
                sum += tanks[i].lees;
            }
            return sum;
        }
    }

    /** The text, and the commands that were read from it. */
    private static final class Script {
        static final int PRESS = 0;
        static final int WET = 1;
        static final int MOVE = 2;
        static final int RACK = 3;
        static final int CLEAN = 4;
        static final int BOTTLE = 5;
        static final int DAY = 6;
        private static final int NO_COMMAND = -1;
        private static final int MOST_DIGITS = 5;
        /** The shortest command is "day;". */
        private static final int MOST_COMMANDS = MOST_CHARACTERS / 4;
        /** A row holds the kind of a command and then its numbers. */
        private static final int ROW = 5;

        final char[] text = new char[MOST_CHARACTERS];
        int length = 0;
        /** Where reading stands; when it fails, the error position. */
        int at = 0;
        int commands = 0;
        final int[] rows = new int[MOST_COMMANDS * ROW];

        int append(char character) {
            if (!within(length, 0, MOST_CHARACTERS - 1)) {
                return CAPACITY_EXCEEDED;
            }
            text[length] = character;
            length++;
            return length;
        }

        int clear() {
            int before = length;
            length = 0;
            return before;
        }

        int number(int row, int column) {
            int index = row * ROW + column;
            return within(index, 0, rows.length - 1) ? rows[index] : 0;
        }

        private void keep(int column, int number) {
            int index = commands * ROW + column;
            if (within(index, 0, rows.length - 1)) {
                rows[index] = number;
            }
        }

        /** Reads the whole text. A token is passed only if it is allowed, so a failure leaves at on its start. */
        boolean read() {
            at = 0;
            commands = 0;
            for (int round = 0; round <= MOST_COMMANDS; round++) {
                skipSpaces();
                if (at >= length) {
                    return true;
                }
                if (!readCommand()) {
                    return false;
                }
                commands++;
            }
            return false;
        }

        private boolean readCommand() {
            int kind = readWord();
            if (kind == NO_COMMAND) {
                return false;
            }
            keep(0, kind);
            for (int column = 1; column <= numbersOf(kind); column++) {
                if (!readNumber(column)) {
                    return false;
                }
            }
            return readEnd();
        }

        private static int numbersOf(int kind) {
            switch (kind) {
                case PRESS:
                case MOVE:
                    return 3;
                case WET:
                case RACK:
                    return 2;
                case CLEAN:
                    return 1;
                case BOTTLE:
                    return 4;
                default:
                    return 0;
            }
        }

        private int readWord() {
            int end = endOf('a', 'z');
            int kind = kindOfWord(end);
            if (kind != NO_COMMAND) {
                at = end;
            }
            return kind;
        }

        private int kindOfWord(int end) {
            if (isWord("press", end)) {
                return PRESS;
            }
            if (isWord("wet", end)) {
                return WET;
            }
            if (isWord("move", end)) {
                return MOVE;
            }
            if (isWord("rack", end)) {
                return RACK;
            }
            if (isWord("clean", end)) {
                return CLEAN;
            }
            if (isWord("bottle", end)) {
                return BOTTLE;
            }
            return isWord("day", end) ? DAY : NO_COMMAND;
        }

        private boolean isWord(String word, int end) {
            if (end - at != word.length()) {
                return false;
            }
            for (int i = 0; i < word.length(); i++) {
                if (text[at + i] != word.charAt(i)) {
                    return false;
                }
            }
            return true;
        }

        private boolean readNumber(int column) {
            skipSpaces();
            int end = endOf('0', '9');
            int digits = end - at;
            if (digits < 1 || digits > MOST_DIGITS || (digits > 1 && text[at] == '0')) {
                return false;
            }
            int number = 0;
            for (int i = at; i < end; i++) {
                number = number * 10 + (text[i] - '0');
            }
            keep(column, number);
            at = end;
            return true;
        }

        private boolean readEnd() {
            skipSpaces();
            if (at >= length || text[at] != ';') {
                return false;
            }
            at++;
            return true;
        }

        private void skipSpaces() {
            at = endOf(' ', ' ');
        }

        /** The offset behind the longest sequence of such characters that begins where reading stands. */
        private int endOf(char first, char last) {
            int end = at;
            while (end < length && text[end] >= first && text[end] <= last) {
                end++;
            }
            return end;
        }
    }
}
