import java.util.NoSuchElementException;

/**
 * A wine cooperative: growers with plots, loads of grapes that are measured for sugar and put into
 * classes, tanks by variety, lots of bottles, and payments by class.
 *
 * <p>This class checks the arguments, keeps the changes that can be undone and the saved states, and
 * leaves the rest to its books.
 */
public final class WineCooperative {
    /** The result of load if the text has an error. */
    public static final int PARSE_ERROR = -7;

    private static final int MAX_TEXT = 600;
    private static final int MAX_NAME_LETTERS = 4;
    private static final int MAX_VARIETIES = 4;
    private static final int MAX_CLASSES = 4;
    private static final int MAX_GROWERS = 6;
    private static final int MAX_PLOTS = 8;
    private static final int MAX_LOADS = 20;
    private static final int MAX_TANKS = 5;
    private static final int MAX_LOTS = 12;
    private static final int MAX_CHANGES = 6;
    private static final int MAX_SLOTS = 2;

    private static final int MAX_LOWEST_SUGAR = 200;
    private static final int MAX_SUGAR = 250;
    private static final int MAX_WEIGHT = 5000;
    private static final int MAX_PRICE = 999;
    private static final int MAX_AREA = 99;
    private static final int MAX_YIELD = 200;
    private static final int MAX_FIRST_CASH = 99999;
    private static final int MAX_CAPACITY = 20000;
    private static final int MAX_BOTTLES = 20000;
    private static final int MAX_BOTTLE_PRICE = 9999;
    private static final int MAX_CASH = 1000000000;

    /** Stands for no class, no variety, no tank and the like. */
    private static final int NONE = -1;
    /** The name of a word that is too long for a name; no variety and no grower bears it. */
    private static final int NO_NAME = 0;
    private static final int LETTER_BITS = 5;
    private static final int LETTER_MASK = 31;

    private static final String FIRST_CLASSES = "cooperative 30 5000;classes 90 75 60;";
    private static final String FIRST_VARIETIES = "variety red;variety rose;";
    private static final String FIRST_PRICES =
            "price red 0 12;price red 1 9;price red 2 5;price rose 0 10;price rose 1 8;";
    private static final String FIRST_PLOTS =
            "grower ann;grower bert;plot ann red 20;plot bert red 10;plot bert rose 8;";
    private static final String FIRST_TANKS = "tank 700;tank 500;tank 300;";
    private static final String FIRST_LOADS = "load 0 400 92;load 1 280 78;load 2 200 76;load 1 90 95;";

    private final Setup setup;
    private final Books books;
    private final History history;
    private final Books[] saved;
    private final boolean[] isSaved;
    private final StringBuilder output;

    public WineCooperative() {
        setup = new Setup();
        books = new Books();
        history = new History();
        saved = new Books[MAX_SLOTS];
        for (int i = 0; i < MAX_SLOTS; i++) {
            saved[i] = new Books();
        }
        isSaved = new boolean[MAX_SLOTS];
        output = new StringBuilder();
        setup.tokens.addText(FIRST_CLASSES);
        setup.tokens.addText(FIRST_VARIETIES);
        setup.tokens.addText(FIRST_PRICES);
        setup.tokens.addText(FIRST_PLOTS);
        setup.tokens.addText(FIRST_TANKS);
        setup.tokens.addText(FIRST_LOADS);
        setup.readAll();
        books.copyFrom(setup.draft);
    }

    public int append(int a, int b, int c, int d, int e) throws IllegalStateException {
        Tokens buffer = setup.tokens;
        if (!buffer.hasRoomFor(20)) {
            throw new IllegalStateException("the input buffer is full");
        }
        buffer.addFour(a);
        buffer.addFour(b);
        buffer.addFour(c);
        buffer.addFour(d);
        buffer.addFour(e);
        return buffer.length;
    }

    public int truncate(int length) throws IllegalArgumentException {
        if (length < 0 || length > setup.tokens.length) {
            throw new IllegalArgumentException("the input buffer cannot be shortened to this length");
        }
        setup.tokens.length = length;
        return length;
    }

    public int load() {
        if (!setup.readAll()) {
            return PARSE_ERROR;
        }
        history.note(books);
        books.copyFrom(setup.draft);
        return books.deliveries.count;
    }

    public int errorCode() {
        return setup.code;
    }

    public int errorOffset() {
        return setup.offset;
    }

    public int varietyCount() {
        return books.catalogue.varieties;
    }

    public int classCount() {
        return books.catalogue.classes;
    }

    public int growerCount() {
        return books.land.growers;
    }

    public int plotCount() {
        return books.land.plots;
    }

    public int loadCount() {
        return books.deliveries.count;
    }

    public int lotCount() {
        return books.cellar.lotTotal;
    }

    public int classBySugar(int sugar) throws IllegalArgumentException {
        needSugar(sugar);
        return books.catalogue.gradeOfSugar(sugar);
    }

    public int price(int variety, int grade) throws IndexOutOfBoundsException {
        needVariety(variety);
        needClass(grade);
        return books.catalogue.centsFor(variety, grade);
    }

    public int weightOfClass(int variety, int grade) throws IndexOutOfBoundsException {
        needVariety(variety);
        needClass(grade);
        return books.deliveries.weightOfPair(variety, grade);
    }

    public int deliveredClasses() {
        return books.deliveries.countPairs();
    }

    public int classInOrder(int rank) throws NoSuchElementException {
        int pair = books.deliveries.pairAtRank(rank);
        if (pair == NONE) {
            throw new NoSuchElementException("there is no such rank");
        }
        return pair;
    }

    public int greatestClass() {
        return books.deliveries.heaviestPair();
    }

    public int plotsOf(int grower) throws IndexOutOfBoundsException {
        needGrower(grower);
        return books.land.countPlotsOf(grower);
    }

    public int weightOf(int grower) throws IndexOutOfBoundsException {
        needGrower(grower);
        return books.deliveries.weightFromGrower(grower);
    }

    public int owed(int grower) throws IndexOutOfBoundsException {
        needGrower(grower);
        return books.unpaidTo(grower);
    }

    public int paidTo(int grower) throws IndexOutOfBoundsException {
        needGrower(grower);
        return books.deliveries.paymentsTo(grower);
    }

    public int varietiesOf(int grower) throws IndexOutOfBoundsException {
        needGrower(grower);
        return books.countVarietiesFrom(grower);
    }

    public int greatestGrower() {
        return books.heaviestGrower();
    }

    public int yieldLimit(int plot) throws IndexOutOfBoundsException {
        needPlot(plot);
        return books.land.limitOf(plot);
    }

    public int harvested(int plot) throws IndexOutOfBoundsException {
        needPlot(plot);
        return books.deliveries.weightFromPlot(plot);
    }

    public int yieldLeft(int plot) throws IndexOutOfBoundsException {
        needPlot(plot);
        return books.greatestWithinLimit(plot);
    }

    public int plotOfLoad(int load) throws IndexOutOfBoundsException {
        return knownLoad(load).plot;
    }

    public int classOfLoad(int load) throws IndexOutOfBoundsException {
        return knownLoad(load).grade;
    }

    public int tankOfLoad(int load) throws IndexOutOfBoundsException {
        return knownLoad(load).tank;
    }

    public int valueOf(int load) throws IndexOutOfBoundsException {
        return books.centsOf(knownLoad(load));
    }

    public boolean isPaid(int load) throws IndexOutOfBoundsException {
        return knownLoad(load).paid;
    }

    public boolean isLowered(int load) throws IndexOutOfBoundsException {
        Load row = knownLoad(load);
        return row.grade != books.catalogue.gradeOfSugar(row.sugar);
    }

    public int content(int tank) throws IndexOutOfBoundsException {
        return knownTank(tank).content;
    }

    public int varietyIn(int tank) throws IndexOutOfBoundsException {
        return knownTank(tank).variety;
    }

    public int meanSugar(int tank) throws IndexOutOfBoundsException {
        return knownTank(tank).mean();
    }

    public int tankFor(int variety, int weight) throws IndexOutOfBoundsException, IllegalArgumentException {
        needVariety(variety);
        needWeight(weight);
        return books.cellar.chooseTank(variety, weight);
    }

    public int greatestLoad(int variety) throws IndexOutOfBoundsException {
        needVariety(variety);
        return books.cellar.greatestWeightFor(variety);
    }

    public int refusal(int plot, int weight, int sugar)
            throws IndexOutOfBoundsException, IllegalArgumentException {
        needPlot(plot);
        needWeight(weight);
        needSugar(sugar);
        return books.reasonAgainst(plot, weight, sugar);
    }

    public int valueIfDelivered(int plot, int weight, int sugar)
            throws IndexOutOfBoundsException, IllegalArgumentException {
        needPlot(plot);
        needWeight(weight);
        needSugar(sugar);
        if (books.reasonAgainst(plot, weight, sugar) != Books.ACCEPTED) {
            return -1;
        }
        return weight * books.catalogue.centsFor(books.land.varietyOn(plot), books.gradeFor(plot, weight, sugar));
    }

    public int lotVariety(int lot) throws IndexOutOfBoundsException {
        return knownLot(lot).variety;
    }

    public int lotSugar(int lot) throws IndexOutOfBoundsException {
        return knownLot(lot).sugar;
    }

    public int unsold(int lot) throws IndexOutOfBoundsException {
        return knownLot(lot).unsold;
    }

    public int sweetestLot() {
        return books.cellar.sweetestUnsold();
    }

    public int bottlesOf(int variety) throws IndexOutOfBoundsException {
        needVariety(variety);
        return books.cellar.stockOf(variety);
    }

    public int missingCash() {
        return Math.max(0, books.unpaidToAll() - books.cash);
    }

    public int cash() {
        return books.cash;
    }

    public int owedToAll() {
        return books.unpaidToAll();
    }

    public int payableGrowers() {
        return books.countPayable();
    }

    public int bottleDifference() {
        return books.deliveries.totalWeight() - books.cellar.totalContent() - books.cellar.totalBottled();
    }

    public int cashDifference() {
        return books.firstCash + books.sales - books.deliveries.totalPayments() - books.cash;
    }

    public float fullness() {
        int capacity = books.cellar.totalCapacity();
        return capacity > 0 ? (float) books.cellar.totalContent() / (float) capacity : 0.0f;
    }

    public double averageSugar() {
        int weight = books.deliveries.totalWeight();
        return weight > 0 ? (double) books.deliveries.totalSugar() / (double) weight : 0.0;
    }

    public int deliver(int plot, int weight, int sugar)
            throws IndexOutOfBoundsException, IllegalArgumentException, IllegalStateException {
        needPlot(plot);
        needWeight(weight);
        needSugar(sugar);
        if (books.reasonAgainst(plot, weight, sugar) != Books.ACCEPTED) {
            throw new IllegalStateException("the load is refused");
        }
        history.note(books);
        return books.accept(plot, weight, sugar);
    }

    public int setPrice(int variety, int grade, int cents)
            throws IndexOutOfBoundsException, IllegalArgumentException {
        needVariety(variety);
        needClass(grade);
        if (cents < 0 || cents > MAX_PRICE) {
            throw new IllegalArgumentException("the price is out of range");
        }
        history.note(books);
        int previous = books.catalogue.centsFor(variety, grade);
        books.catalogue.putPrice(variety, grade, cents);
        return previous;
    }

    public int bottle(int tank, int bottles)
            throws IndexOutOfBoundsException, IllegalArgumentException, IllegalStateException {
        Tank from = knownTank(tank);
        needBottles(bottles);
        if (!books.cellar.canFillLot(from, bottles)) {
            throw new IllegalStateException("the wine is not there, or there are too many lots");
        }
        history.note(books);
        return books.cellar.fillLot(from, bottles);
    }

    public int sell(int lot, int bottles, int cents)
            throws IndexOutOfBoundsException, IllegalArgumentException, IllegalStateException {
        Lot row = knownLot(lot);
        needBottles(bottles);
        if (cents < 1 || cents > MAX_BOTTLE_PRICE) {
            throw new IllegalArgumentException("the price of a bottle is out of range");
        }
        if (!books.canTrade(row, bottles, cents)) {
            throw new IllegalStateException("the bottles are not there, or the cash would be too much");
        }
        history.note(books);
        books.trade(row, bottles, cents);
        return books.cash;
    }

    public int payLoad(int load) throws IndexOutOfBoundsException, IllegalStateException {
        Load row = knownLoad(load);
        int cents = books.centsOf(row);
        if (row.paid || cents > books.cash) {
            throw new IllegalStateException("the load is paid, or the cash is not enough");
        }
        history.note(books);
        return books.settle(row, cents);
    }

    public int payGrower(int grower) throws IndexOutOfBoundsException, IllegalStateException {
        needGrower(grower);
        if (!books.canSettleAll(grower)) {
            throw new IllegalStateException("there is nothing to pay, or the cash is not enough");
        }
        history.note(books);
        return books.settleAll(grower);
    }

    public int pump(int from, int to)
            throws IndexOutOfBoundsException, IllegalArgumentException, IllegalStateException {
        Tank source = knownTank(from);
        Tank target = knownTank(to);
        if (from == to) {
            throw new IllegalArgumentException("both tanks are the same");
        }
        if (!source.canMoveTo(target)) {
            throw new IllegalStateException("the other tank cannot take the wine");
        }
        history.note(books);
        source.moveTo(target);
        return target.content;
    }

    public int save(int slot) throws IndexOutOfBoundsException {
        needSlot(slot);
        saved[slot].copyFrom(books);
        isSaved[slot] = true;
        return books.cash;
    }

    public int restore(int slot) throws IndexOutOfBoundsException, IllegalStateException {
        needSlot(slot);
        if (!isSaved[slot]) {
            throw new IllegalStateException("nothing is saved in this slot");
        }
        history.note(books);
        books.copyFrom(saved[slot]);
        return books.cash;
    }

    public int undo() throws IllegalStateException {
        if (history.count == 0) {
            throw new IllegalStateException("there is no change to undo");
        }
        history.bringBack(books);
        return history.count;
    }

    public int printTanks() {
        output.setLength(0);
        for (int i = 0; i < books.cellar.tankTotal; i++) {
            if (i > 0) {
                output.append(' ');
            }
            Tank tank = books.cellar.tanks[i];
            output.append(tank.content);
            if (tank.content > 0) {
                output.append(':');
                writeName(books.catalogue.nameOfVariety(tank.variety));
            }
        }
        return output.length();
    }

    public int outputByte(int index) throws NoSuchElementException {
        if (index < 0 || index >= output.length()) {
            throw new NoSuchElementException("there is no such byte");
        }
        return output.charAt(index);
    }

    private void writeName(int name) {
        for (int shift = (MAX_NAME_LETTERS - 1) * LETTER_BITS; shift >= 0; shift -= LETTER_BITS) {
            int letter = (name >> shift) & LETTER_MASK;
            if (letter != 0) {
                output.append((char) ('a' + letter - 1));
            }
        }
    }

    private Load knownLoad(int load) {
        if (load < 0 || load >= books.deliveries.count) {
            throw new IndexOutOfBoundsException("there is no such load");
        }
        return books.deliveries.loads[load];
    }

    private Tank knownTank(int tank) {
        if (tank < 0 || tank >= books.cellar.tankTotal) {
            throw new IndexOutOfBoundsException("there is no such tank");
        }
        return books.cellar.tanks[tank];
    }

    private Lot knownLot(int lot) {
        if (lot < 0 || lot >= books.cellar.lotTotal) {
            throw new IndexOutOfBoundsException("there is no such lot");
        }
        return books.cellar.lots[lot];
    }

    private void needVariety(int variety) {
        if (!books.catalogue.hasVariety(variety)) {
            throw new IndexOutOfBoundsException("there is no such variety");
        }
    }

    private void needClass(int grade) {
        if (!books.catalogue.hasGrade(grade)) {
            throw new IndexOutOfBoundsException("there is no such class");
        }
    }

    private void needGrower(int grower) {
        if (grower < 0 || grower >= books.land.growers) {
            throw new IndexOutOfBoundsException("there is no such grower");
        }
    }

    private void needPlot(int plot) {
        if (!books.land.hasPlot(plot)) {
            throw new IndexOutOfBoundsException("there is no such plot");
        }
    }

    private static void needSlot(int slot) {
        if (slot < 0 || slot >= MAX_SLOTS) {
            throw new IndexOutOfBoundsException("there is no such slot");
        }
    }

    private static void needWeight(int weight) {
        if (weight < 1 || weight > MAX_WEIGHT) {
            throw new IllegalArgumentException("the weight is out of range");
        }
    }

    private static void needSugar(int sugar) {
        if (sugar < 0 || sugar > MAX_SUGAR) {
            throw new IllegalArgumentException("the sugar is out of range");
        }
    }

    private static void needBottles(int bottles) {
        if (bottles < 1 || bottles > MAX_BOTTLES) {
            throw new IllegalArgumentException("the number of bottles is out of range");
        }
    }

    /** The states before the latest changes. Its books are made once, for room, and used in a ring. */
    private static final class History {
        private final Books[] before = new Books[MAX_CHANGES];
        private int next;
        private int count;

        History() {
            for (int i = 0; i < MAX_CHANGES; i++) {
                before[i] = new Books();
            }
        }

        void note(Books books) {
            before[next].copyFrom(books);
            next = (next + 1) % MAX_CHANGES;
            count = Math.min(count + 1, MAX_CHANGES);
        }

        void bringBack(Books books) {
            next = (next + MAX_CHANGES - 1) % MAX_CHANGES;
            count--;
            books.copyFrom(before[next]);
        }
    }

    /** Everything that undo brings back. */
    private static final class Books {
        static final int ACCEPTED = 0;
        static final int TOO_MANY_LOADS = 1;
        static final int NO_CLASS = 2;
        static final int NO_TANK = 3;

        private final Catalogue catalogue = new Catalogue();
        private final Land land = new Land();
        private final Deliveries deliveries = new Deliveries();
        private final Cellar cellar = new Cellar();
        private int firstCash;
        private int sales;
        private int cash;

        void clear() {
            catalogue.classes = 0;
            catalogue.varieties = 0;
            land.growers = 0;
            land.plots = 0;
            deliveries.count = 0;
            cellar.tankTotal = 0;
            cellar.lotTotal = 0;
            open(0);
        }

        void open(int cents) {
            firstCash = cents;
            sales = 0;
            cash = cents;
        }

        void copyFrom(Books other) {
            catalogue.copyFrom(other.catalogue);
            land.copyFrom(other.land);
            deliveries.copyFrom(other.deliveries);
            cellar.copyFrom(other.cellar);
            firstCash = other.firstCash;
            sales = other.sales;
            cash = other.cash;
        }

        boolean isNameTaken(int name) {
            return catalogue.varietyNamed(name) != NONE || land.growerNamed(name) != NONE;
        }

        int greatestWithinLimit(int plot) {
            int left = land.limitOf(plot) - deliveries.weightFromPlot(plot);
            return Math.max(0, Math.min(left, MAX_WEIGHT));
        }

        int reasonAgainst(int plot, int weight, int sugar) {
            if (deliveries.isFull()) {
                return TOO_MANY_LOADS;
            }
            if (catalogue.gradeOfSugar(sugar) == NONE) {
                return NO_CLASS;
            }
            return cellar.chooseTank(land.varietyOn(plot), weight) == NONE ? NO_TANK : ACCEPTED;
        }

        int gradeFor(int plot, int weight, int sugar) {
            if (deliveries.weightFromPlot(plot) + weight > land.limitOf(plot)) {
                return catalogue.classes - 1;
            }
            return catalogue.gradeOfSugar(sugar);
        }

        /** Only for a load against which there is no reason. */
        int accept(int plot, int weight, int sugar) {
            int variety = land.varietyOn(plot);
            int grade = gradeFor(plot, weight, sugar);
            int tank = cellar.chooseTank(variety, weight);
            if (tank < 0 || tank >= MAX_TANKS || deliveries.isFull()) {
                return NONE;
            }
            cellar.tanks[tank].pour(variety, weight, weight * sugar);
            Load load = deliveries.addLoad();
            load.plot = plot;
            load.grower = land.ownerOf(plot);
            load.variety = variety;
            load.weight = weight;
            load.sugar = sugar;
            load.grade = grade;
            load.tank = tank;
            return grade;
        }

        int centsOf(Load load) {
            return load.paid ? load.paidCents : load.weight * catalogue.centsFor(load.variety, load.grade);
        }

        int unpaidTo(int grower) {
            int sum = 0;
            for (int i = 0; i < deliveries.count; i++) {
                Load load = deliveries.loads[i];
                if (load.isUnpaidOf(grower)) {
                    sum += load.weight * catalogue.centsFor(load.variety, load.grade);
                }
            }
            return sum;
        }

        int unpaidToAll() {
            int sum = 0;
            for (int grower = 0; grower < land.growers; grower++) {
                sum += unpaidTo(grower);
            }
            return sum;
        }

        int countPayable() {
            int left = cash;
            int payable = 0;
            for (int grower = 0; grower < land.growers; grower++) {
                int cents = unpaidTo(grower);
                if (cents > left) {
                    break;
                }
                if (cents > 0) {
                    left -= cents;
                    payable++;
                }
            }
            return payable;
        }

        boolean canSettleAll(int grower) {
            return deliveries.hasUnpaidOf(grower) && unpaidTo(grower) <= cash;
        }

        int settleAll(int grower) {
            int sum = 0;
            for (int i = 0; i < deliveries.count; i++) {
                Load load = deliveries.loads[i];
                if (load.isUnpaidOf(grower)) {
                    sum += settle(load, centsOf(load));
                }
            }
            return sum;
        }

        int settle(Load load, int cents) {
            load.paid = true;
            load.paidCents = cents;
            cash -= cents;
            return cents;
        }

        boolean canTrade(Lot lot, int bottles, int cents) {
            return bottles <= lot.unsold && bottles * cents <= MAX_CASH - cash;
        }

        void trade(Lot lot, int bottles, int cents) {
            lot.unsold -= bottles;
            sales += bottles * cents;
            cash += bottles * cents;
        }

        int countVarietiesFrom(int grower) {
            int found = 0;
            for (int variety = 0; variety < catalogue.varieties; variety++) {
                if (deliveries.hasVarietyFrom(variety, grower)) {
                    found++;
                }
            }
            return found;
        }

        int heaviestGrower() {
            int heaviest = NONE;
            int most = -1;
            for (int grower = 0; grower < land.growers; grower++) {
                int weight = deliveries.weightFromGrower(grower);
                if (weight > most) {
                    most = weight;
                    heaviest = grower;
                }
            }
            return heaviest;
        }
    }

    /** The classes, the varieties and the prices. */
    private static final class Catalogue {
        private final int[] lowestSugar = new int[MAX_CLASSES];
        private final int[] varietyName = new int[MAX_VARIETIES];
        private final int[] cents = new int[MAX_VARIETIES * MAX_CLASSES];
        private int classes;
        private int varieties;

        void copyFrom(Catalogue other) {
            System.arraycopy(other.lowestSugar, 0, lowestSugar, 0, MAX_CLASSES);
            System.arraycopy(other.varietyName, 0, varietyName, 0, MAX_VARIETIES);
            System.arraycopy(other.cents, 0, cents, 0, MAX_VARIETIES * MAX_CLASSES);
            classes = other.classes;
            varieties = other.varieties;
        }

        boolean hasVariety(int variety) {
            return variety >= 0 && variety < varieties;
        }

        boolean hasGrade(int grade) {
            return grade >= 0 && grade < classes;
        }

        boolean isLessThanLast(int sugar) {
            int last = classes - 1;
            return !hasGrade(last) || sugar < lowestSugar[last];
        }

        void addClass(int sugar) {
            if (classes < MAX_CLASSES) {
                lowestSugar[classes] = sugar;
                classes++;
            }
        }

        void addVariety(int name) {
            if (varieties < MAX_VARIETIES) {
                int variety = varieties;
                varietyName[variety] = name;
                varieties++;
                for (int grade = 0; grade < classes; grade++) {
                    putPrice(variety, grade, 0);
                }
            }
        }

        int varietyNamed(int name) {
            for (int i = 0; i < varieties; i++) {
                if (varietyName[i] == name) {
                    return i;
                }
            }
            return NONE;
        }

        int nameOfVariety(int variety) {
            return hasVariety(variety) ? varietyName[variety] : NO_NAME;
        }

        int gradeOfSugar(int sugar) {
            for (int i = 0; i < classes; i++) {
                if (lowestSugar[i] <= sugar) {
                    return i;
                }
            }
            return NONE;
        }

        int centsFor(int variety, int grade) {
            if (variety < 0 || variety >= varieties || grade < 0 || grade >= classes) {
                return 0;
            }
            return cents[variety * MAX_CLASSES + grade];
        }

        void putPrice(int variety, int grade, int price) {
            if (hasVariety(variety) && hasGrade(grade)) {
                cents[variety * MAX_CLASSES + grade] = price;
            }
        }
    }

    /** The growers and their plots. */
    private static final class Land {
        private final int[] growerName = new int[MAX_GROWERS];
        private final int[] plotOwner = new int[MAX_PLOTS];
        private final int[] plotVariety = new int[MAX_PLOTS];
        private final int[] plotLimit = new int[MAX_PLOTS];
        private int growers;
        private int plots;

        void copyFrom(Land other) {
            System.arraycopy(other.growerName, 0, growerName, 0, MAX_GROWERS);
            System.arraycopy(other.plotOwner, 0, plotOwner, 0, MAX_PLOTS);
            System.arraycopy(other.plotVariety, 0, plotVariety, 0, MAX_PLOTS);
            System.arraycopy(other.plotLimit, 0, plotLimit, 0, MAX_PLOTS);
            growers = other.growers;
            plots = other.plots;
        }

        boolean hasPlot(int plot) {
            return plot >= 0 && plot < plots;
        }

        void addGrower(int name) {
            if (growers < MAX_GROWERS) {
                growerName[growers] = name;
                growers++;
            }
        }

        void addPlot(int owner, int variety, int limit) {
            if (plots < MAX_PLOTS) {
                plotOwner[plots] = owner;
                plotVariety[plots] = variety;
                plotLimit[plots] = limit;
                plots++;
            }
        }

        int growerNamed(int name) {
            for (int i = 0; i < growers; i++) {
                if (growerName[i] == name) {
                    return i;
                }
            }
            return NONE;
        }

        int countPlotsOf(int grower) {
            int found = 0;
            for (int i = 0; i < plots; i++) {
                if (plotOwner[i] == grower) {
                    found++;
                }
            }
            return found;
        }

        int ownerOf(int plot) {
            return plot >= 0 && plot < plots ? plotOwner[plot] : NONE;
        }

        int varietyOn(int plot) {
            return plot >= 0 && plot < plots ? plotVariety[plot] : NONE;
        }

        int limitOf(int plot) {
            return plot >= 0 && plot < plots ? plotLimit[plot] : 0;
        }
    }

    /** A load; its grower and variety are those of its plot, kept here because plots never change. */
    private static final class Load {
        private int plot;
        private int grower;
        private int variety;
        private int weight;
        private int sugar;
        private int grade;
        private int tank;
        private boolean paid;
        private int paidCents;

        void copyFrom(Load other) {
            plot = other.plot;
            grower = other.grower;
            variety = other.variety;
            weight = other.weight;
            sugar = other.sugar;
            grade = other.grade;
            tank = other.tank;
            paid = other.paid;
            paidCents = other.paidCents;
        }

        boolean isUnpaidOf(int someGrower) {
            return grower == someGrower && !paid;
        }

        boolean isOfPair(int someVariety, int someGrade) {
            return variety == someVariety && grade == someGrade;
        }

        int pairCode() {
            return 10 * variety + grade;
        }
    }

    /** The loads in the order in which they were accepted. */
    private static final class Deliveries {
        private final Load[] loads = new Load[MAX_LOADS];
        private int count;

        Deliveries() {
            for (int i = 0; i < MAX_LOADS; i++) {
                loads[i] = new Load();
            }
        }

        void copyFrom(Deliveries other) {
            for (int i = 0; i < MAX_LOADS; i++) {
                loads[i].copyFrom(other.loads[i]);
            }
            count = other.count;
        }

        boolean isFull() {
            return count >= MAX_LOADS;
        }

        /** Only while there is room; the row may have been used before, so it is unpaid anew. */
        Load addLoad() {
            Load load = loads[Math.min(count, MAX_LOADS - 1)];
            load.paid = false;
            load.paidCents = 0;
            count = Math.min(count + 1, MAX_LOADS);
            return load;
        }

        int totalWeight() {
            int sum = 0;
            for (int i = 0; i < count; i++) {
                sum += loads[i].weight;
            }
            return sum;
        }

        int totalSugar() {
            int sum = 0;
            for (int i = 0; i < count; i++) {
                sum += loads[i].weight * loads[i].sugar;
            }
            return sum;
        }

        int totalPayments() {
            int sum = 0;
            for (int i = 0; i < count; i++) {
                sum += loads[i].paidCents;
            }
            return sum;
        }

        int paymentsTo(int grower) {
            int sum = 0;
            for (int i = 0; i < count; i++) {
                if (loads[i].grower == grower) {
                    sum += loads[i].paidCents;
                }
            }
            return sum;
        }

        boolean hasUnpaidOf(int grower) {
            for (int i = 0; i < count; i++) {
                if (loads[i].isUnpaidOf(grower)) {
                    return true;
                }
            }
            return false;
        }

        boolean hasVarietyFrom(int variety, int grower) {
            for (int i = 0; i < count; i++) {
                if (loads[i].variety == variety && loads[i].grower == grower) {
                    return true;
                }
            }
            return false;
        }

        int weightFromPlot(int plot) {
            int sum = 0;
            for (int i = 0; i < count; i++) {
                if (loads[i].plot == plot) {
                    sum += loads[i].weight;
                }
            }
            return sum;
        }

        int weightFromGrower(int grower) {
            int sum = 0;
            for (int i = 0; i < count; i++) {
                if (loads[i].grower == grower) {
                    sum += loads[i].weight;
                }
            }
            return sum;
        }

        int weightOfPair(int variety, int grade) {
            int sum = 0;
            for (int i = 0; i < count; i++) {
                if (loads[i].isOfPair(variety, grade)) {
                    sum += loads[i].weight;
                }
            }
            return sum;
        }

        private boolean isNewPair(Load load, int before) {
            for (int i = 0; i < before && i < count; i++) {
                if (loads[i].isOfPair(load.variety, load.grade)) {
                    return false;
                }
            }
            return true;
        }

        int countPairs() {
            int found = 0;
            for (int i = 0; i < count; i++) {
                if (isNewPair(loads[i], i)) {
                    found++;
                }
            }
            return found;
        }

        int pairAtRank(int rank) {
            int found = 0;
            for (int i = 0; i < count; i++) {
                if (isNewPair(loads[i], i)) {
                    if (found == rank) {
                        return loads[i].pairCode();
                    }
                    found++;
                }
            }
            return NONE;
        }

        int heaviestPair() {
            int heaviest = NONE;
            int most = 0;
            for (int i = 0; i < count; i++) {
                int weight = weightOfPair(loads[i].variety, loads[i].grade);
                if (weight > most) {
                    most = weight;
                    heaviest = loads[i].pairCode();
                }
            }
            return heaviest;
        }
    }

    /** A tank; its variety is NONE as long as it is empty. */
    private static final class Tank {
        private int capacity;
        private int content;
        private int variety = NONE;
        private int sugarSum;

        void copyFrom(Tank other) {
            capacity = other.capacity;
            content = other.content;
            variety = other.variety;
            sugarSum = other.sugarSum;
        }

        void makeEmpty() {
            content = 0;
            variety = NONE;
            sugarSum = 0;
        }

        int room() {
            return capacity - content;
        }

        int mean() {
            return content > 0 ? sugarSum / content : 0;
        }

        boolean holds(int someVariety) {
            return content > 0 && variety == someVariety;
        }

        boolean takes(int someVariety) {
            return content == 0 || variety == someVariety;
        }

        void pour(int newVariety, int bottles, int sugar) {
            variety = newVariety;
            content += bottles;
            sugarSum += sugar;
        }

        void draw(int bottles) {
            sugarSum -= bottles * mean();
            content -= bottles;
            if (content == 0) {
                makeEmpty();
            }
        }

        boolean canMoveTo(Tank other) {
            return content > 0 && other.takes(variety) && content <= other.room();
        }

        void moveTo(Tank other) {
            other.pour(variety, content, sugarSum);
            makeEmpty();
        }
    }

    /** A lot of bottles, sold or not. */
    private static final class Lot {
        private int variety;
        private int sugar;
        private int bottles;
        private int unsold;

        void copyFrom(Lot other) {
            variety = other.variety;
            sugar = other.sugar;
            bottles = other.bottles;
            unsold = other.unsold;
        }
    }

    /** The tanks and the lots. */
    private static final class Cellar {
        private final Tank[] tanks = new Tank[MAX_TANKS];
        private final Lot[] lots = new Lot[MAX_LOTS];
        private int tankTotal;
        private int lotTotal;

        Cellar() {
            for (int i = 0; i < MAX_TANKS; i++) {
                tanks[i] = new Tank();
            }
            for (int i = 0; i < MAX_LOTS; i++) {
                lots[i] = new Lot();
            }
        }

        void copyFrom(Cellar other) {
            for (int i = 0; i < MAX_TANKS; i++) {
                tanks[i].copyFrom(other.tanks[i]);
            }
            for (int i = 0; i < MAX_LOTS; i++) {
                lots[i].copyFrom(other.lots[i]);
            }
            tankTotal = other.tankTotal;
            lotTotal = other.lotTotal;
        }

        void addTank(int capacity) {
            if (tankTotal < MAX_TANKS) {
                tanks[tankTotal].makeEmpty();
                tanks[tankTotal].capacity = capacity;
                tankTotal++;
            }
        }

        int chooseTank(int variety, int weight) {
            int empty = NONE;
            for (int i = 0; i < tankTotal; i++) {
                Tank tank = tanks[i];
                if (tank.room() >= weight) {
                    if (tank.holds(variety)) {
                        return i;
                    }
                    if (tank.content == 0 && empty == NONE) {
                        empty = i;
                    }
                }
            }
            return empty;
        }

        int greatestWeightFor(int variety) {
            int most = 0;
            for (int i = 0; i < tankTotal; i++) {
                if (tanks[i].takes(variety)) {
                    most = Math.max(most, tanks[i].room());
                }
            }
            return Math.min(most, MAX_WEIGHT);
        }

        boolean canFillLot(Tank tank, int bottles) {
            return bottles <= tank.content && lotTotal < MAX_LOTS;
        }

        int fillLot(Tank tank, int bottles) {
            if (lotTotal >= MAX_LOTS) {
                return NONE;
            }
            Lot lot = lots[lotTotal];
            lot.variety = tank.variety;
            lot.sugar = tank.mean();
            lot.bottles = bottles;
            lot.unsold = bottles;
            tank.draw(bottles);
            lotTotal++;
            return lotTotal - 1;
        }

        int sweetestUnsold() {
            int sweetest = NONE;
            int most = -1;
            for (int i = 0; i < lotTotal; i++) {
                if (lots[i].unsold > 0 && lots[i].sugar > most) {
                    most = lots[i].sugar;
                    sweetest = i;
                }
            }
            return sweetest;
        }

        int stockOf(int variety) {
            int sum = 0;
            for (int i = 0; i < tankTotal; i++) {
                if (tanks[i].holds(variety)) {
                    sum += tanks[i].content;
                }
            }
            for (int i = 0; i < lotTotal; i++) {
                if (lots[i].variety == variety) {
                    sum += lots[i].unsold;
                }
            }
            return sum;
        }

        int totalContent() {
            int sum = 0;
            for (int i = 0; i < tankTotal; i++) {
                sum += tanks[i].content;
            }
            return sum;
        }

        int totalCapacity() {
            int sum = 0;
            for (int i = 0; i < tankTotal; i++) {
                sum += tanks[i].capacity;
            }
            return sum;
        }

        int totalBottled() {
            int sum = 0;
            for (int i = 0; i < lotTotal; i++) {
                sum += lots[i].bottles;
            }
            return sum;
        }
    }

    /** The input buffer and the token at which its reader stands. */
    private static final class Tokens {
        private static final int END = 0;
        private static final int BLANK = 1;
        private static final int WORD = 2;
        private static final int NUMBER = 3;
        private static final int SEMICOLON = 4;
        private static final int OTHER = 5;
        /** From here on a number is out of every range, so that further digits need not count. */
        private static final int ENOUGH = 1000000;

        private final byte[] text = new byte[MAX_TEXT];
        private int length;
        private int kind;
        private int start;
        private int end;
        private int number;
        private int name;

        boolean hasRoomFor(int bytes) {
            return bytes <= MAX_TEXT - length;
        }

        void addText(String signs) {
            for (int i = 0; i < signs.length(); i++) {
                addByte(signs.charAt(i));
            }
        }

        void addFour(int bytes) {
            addByte(bytes >> 24);
            addByte(bytes >> 16);
            addByte(bytes >> 8);
            addByte(bytes);
        }

        private void addByte(int sign) {
            if (length < MAX_TEXT) {
                text[length] = (byte) sign;
                length++;
            }
        }

        void toFirst() {
            end = 0;
            toNext();
        }

        void toNext() {
            start = end;
            while (start < length && kindAt(start) == BLANK) {
                start++;
            }
            kind = kindAt(start);
            end = start;
            name = 0;
            number = 0;
            while (end < length && kindAt(end) == kind && (end == start || isRun())) {
                takeSign(signAt(end));
                end++;
            }
            if (end - start > MAX_NAME_LETTERS) {
                name = NO_NAME;
            }
        }

        private boolean isRun() {
            return kind == WORD || kind == NUMBER;
        }

        private void takeSign(int sign) {
            if (kind == WORD) {
                name = (name << LETTER_BITS) + sign - 'a' + 1;
            } else if (kind == NUMBER && number < ENOUGH) {
                number = 10 * number + sign - '0';
            }
        }

        boolean spells(String word) {
            if (kind != WORD || end - start != word.length()) {
                return false;
            }
            for (int i = 0; i < word.length(); i++) {
                if (signAt(start + i) != word.charAt(i)) {
                    return false;
                }
            }
            return true;
        }

        private int signAt(int position) {
            return position >= 0 && position < length ? text[position] : 0;
        }

        private int kindAt(int position) {
            if (position < 0 || position >= length) {
                return END;
            }
            int sign = text[position];
            if (sign >= 'a' && sign <= 'z') {
                return WORD;
            }
            if (sign >= '0' && sign <= '9') {
                return NUMBER;
            }
            if (sign == ';') {
                return SEMICOLON;
            }
            return sign == ' ' || sign == '\n' ? BLANK : OTHER;
        }
    }

    /**
     * Reads a setup text and carries out its statements on a draft, so that a text with an error
     * leaves the books as they are. What reads a token stands behind it afterwards, or has failed.
     */
    private static final class Setup {
        private static final int NOT_ALLOWED = 1;
        private static final int OUT_OF_RANGE = 2;
        private static final int NOT_NEW = 3;
        private static final int UNKNOWN_NAME = 4;
        private static final int TOO_MANY = 5;
        private static final int IMPOSSIBLE = 6;

        private final Tokens tokens = new Tokens();
        private final Books draft = new Books();
        private int kilogramsPerArea;
        private int code;
        private int offset = -1;

        boolean readAll() {
            code = 0;
            offset = -1;
            draft.clear();
            tokens.toFirst();
            boolean good = readCooperative() && readClasses();
            for (int i = 0; i < MAX_TEXT && good && tokens.kind != Tokens.END; i++) {
                good = readStatement();
            }
            tokens.length = 0;
            return good;
        }

        private boolean readCooperative() {
            if (!tokens.spells("cooperative")) {
                return fail(NOT_ALLOWED);
            }
            tokens.toNext();
            kilogramsPerArea = readNumber(1, MAX_YIELD);
            if (kilogramsPerArea == NONE) {
                return false;
            }
            int cents = readNumber(0, MAX_FIRST_CASH);
            if (cents == NONE) {
                return false;
            }
            draft.open(cents);
            return readSemicolon();
        }

        private boolean readClasses() {
            if (!tokens.spells("classes")) {
                return fail(NOT_ALLOWED);
            }
            tokens.toNext();
            boolean good = readLowestSugar();
            for (int more = 0; more < MAX_CLASSES && good && tokens.kind != Tokens.SEMICOLON; more++) {
                good = readLowestSugar();
            }
            return good && readSemicolon();
        }

        private boolean readLowestSugar() {
            if (!isNumberHere(0, MAX_LOWEST_SUGAR)) {
                return false;
            }
            if (!draft.catalogue.isLessThanLast(tokens.number)) {
                return fail(NOT_NEW);
            }
            if (draft.catalogue.classes >= MAX_CLASSES) {
                return fail(TOO_MANY);
            }
            draft.catalogue.addClass(tokens.number);
            tokens.toNext();
            return true;
        }

        private boolean readStatement() {
            if (tokens.spells("variety")) {
                return readVariety();
            }
            if (tokens.spells("price")) {
                return readPrice();
            }
            if (tokens.spells("grower")) {
                return readGrower();
            }
            if (tokens.spells("plot")) {
                return readPlot();
            }
            if (tokens.spells("tank")) {
                return readTank();
            }
            if (tokens.spells("load")) {
                return readLoad();
            }
            if (tokens.spells("bottle")) {
                return readBottle();
            }
            if (tokens.spells("sell")) {
                return readSell();
            }
            if (tokens.spells("pay")) {
                return readPay();
            }
            if (tokens.spells("pump")) {
                return readPump();
            }
            return fail(NOT_ALLOWED);
        }

        private boolean readVariety() {
            if (draft.catalogue.varieties >= MAX_VARIETIES) {
                return fail(TOO_MANY);
            }
            tokens.toNext();
            int name = readNewName();
            if (name == NO_NAME) {
                return false;
            }
            draft.catalogue.addVariety(name);
            return readSemicolon();
        }

        private boolean readPrice() {
            tokens.toNext();
            int variety = readVarietyName();
            if (variety == NONE) {
                return false;
            }
            int grade = readNumber(0, draft.catalogue.classes - 1);
            if (grade == NONE) {
                return false;
            }
            int cents = readNumber(0, MAX_PRICE);
            if (cents == NONE) {
                return false;
            }
            draft.catalogue.putPrice(variety, grade, cents);
            return readSemicolon();
        }

        private boolean readGrower() {
            if (draft.land.growers >= MAX_GROWERS) {
                return fail(TOO_MANY);
            }
            tokens.toNext();
            int name = readNewName();
            if (name == NO_NAME) {
                return false;
            }
            draft.land.addGrower(name);
            return readSemicolon();
        }

        private boolean readPlot() {
            if (draft.land.plots >= MAX_PLOTS) {
                return fail(TOO_MANY);
            }
            tokens.toNext();
            int grower = readGrowerName();
            if (grower == NONE) {
                return false;
            }
            int variety = readVarietyName();
            if (variety == NONE) {
                return false;
            }
            int area = readNumber(1, MAX_AREA);
            if (area == NONE) {
                return false;
            }
            draft.land.addPlot(grower, variety, area * kilogramsPerArea);
            return readSemicolon();
        }

        private boolean readTank() {
            if (draft.cellar.tankTotal >= MAX_TANKS) {
                return fail(TOO_MANY);
            }
            tokens.toNext();
            int capacity = readNumber(1, MAX_CAPACITY);
            if (capacity == NONE) {
                return false;
            }
            draft.cellar.addTank(capacity);
            return readSemicolon();
        }

        private boolean readLoad() {
            tokens.toNext();
            int plot = readNumber(0, draft.land.plots - 1);
            if (plot == NONE) {
                return false;
            }
            int weight = readNumber(1, MAX_WEIGHT);
            if (weight == NONE) {
                return false;
            }
            int sugar = readNumber(0, MAX_SUGAR);
            if (sugar == NONE || !isSemicolonHere()) {
                return false;
            }
            if (draft.reasonAgainst(plot, weight, sugar) != Books.ACCEPTED) {
                return fail(IMPOSSIBLE);
            }
            draft.accept(plot, weight, sugar);
            return readSemicolon();
        }

        private boolean readBottle() {
            tokens.toNext();
            int tank = readNumber(0, draft.cellar.tankTotal - 1);
            if (tank < 0 || tank >= MAX_TANKS) {
                return false;
            }
            int bottles = readNumber(1, MAX_BOTTLES);
            if (bottles == NONE || !isSemicolonHere()) {
                return false;
            }
            Tank from = draft.cellar.tanks[tank];
            if (!draft.cellar.canFillLot(from, bottles)) {
                return fail(IMPOSSIBLE);
            }
            draft.cellar.fillLot(from, bottles);
            return readSemicolon();
        }

        private boolean readSell() {
            tokens.toNext();
            int lot = readNumber(0, draft.cellar.lotTotal - 1);
            if (lot < 0 || lot >= MAX_LOTS) {
                return false;
            }
            int bottles = readNumber(1, MAX_BOTTLES);
            if (bottles == NONE) {
                return false;
            }
            int cents = readNumber(1, MAX_BOTTLE_PRICE);
            if (cents == NONE || !isSemicolonHere()) {
                return false;
            }
            Lot row = draft.cellar.lots[lot];
            if (!draft.canTrade(row, bottles, cents)) {
                return fail(IMPOSSIBLE);
            }
            draft.trade(row, bottles, cents);
            return readSemicolon();
        }

        private boolean readPay() {
            tokens.toNext();
            int grower = readGrowerName();
            if (grower == NONE || !isSemicolonHere()) {
                return false;
            }
            if (!draft.canSettleAll(grower)) {
                return fail(IMPOSSIBLE);
            }
            draft.settleAll(grower);
            return readSemicolon();
        }

        private boolean readPump() {
            tokens.toNext();
            int from = readNumber(0, draft.cellar.tankTotal - 1);
            if (from < 0 || from >= MAX_TANKS) {
                return false;
            }
            if (tokens.kind == Tokens.NUMBER && tokens.number == from) {
                return fail(NOT_NEW);
            }
            int to = readNumber(0, draft.cellar.tankTotal - 1);
            if (to < 0 || to >= MAX_TANKS || !isSemicolonHere()) {
                return false;
            }
            if (!draft.cellar.tanks[from].canMoveTo(draft.cellar.tanks[to])) {
                return fail(IMPOSSIBLE);
            }
            draft.cellar.tanks[from].moveTo(draft.cellar.tanks[to]);
            return readSemicolon();
        }

        private boolean isNumberHere(int low, int high) {
            if (tokens.kind != Tokens.NUMBER) {
                return fail(NOT_ALLOWED);
            }
            if (tokens.number < low || tokens.number > high) {
                return fail(OUT_OF_RANGE);
            }
            return true;
        }

        private int readNumber(int low, int high) {
            if (!isNumberHere(low, high)) {
                return NONE;
            }
            int number = tokens.number;
            tokens.toNext();
            return number;
        }

        private boolean isWordHere() {
            return tokens.kind == Tokens.WORD || fail(NOT_ALLOWED);
        }

        private int readNewName() {
            if (!isWordHere()) {
                return NO_NAME;
            }
            int name = tokens.name;
            if (name == NO_NAME) {
                fail(OUT_OF_RANGE);
                return NO_NAME;
            }
            if (draft.isNameTaken(name)) {
                fail(NOT_NEW);
                return NO_NAME;
            }
            tokens.toNext();
            return name;
        }

        private int readVarietyName() {
            if (!isWordHere()) {
                return NONE;
            }
            int variety = draft.catalogue.varietyNamed(tokens.name);
            if (variety == NONE) {
                fail(UNKNOWN_NAME);
            } else {
                tokens.toNext();
            }
            return variety;
        }

        private int readGrowerName() {
            if (!isWordHere()) {
                return NONE;
            }
            int grower = draft.land.growerNamed(tokens.name);
            if (grower == NONE) {
                fail(UNKNOWN_NAME);
            } else {
                tokens.toNext();
            }
            return grower;
        }

        private boolean isSemicolonHere() {
            return tokens.kind == Tokens.SEMICOLON || fail(NOT_ALLOWED);
        }

        private boolean readSemicolon() {
            if (!isSemicolonHere()) {
                return false;
            }
            tokens.toNext();
            return true;
        }

        private boolean fail(int errorCode) {
            code = errorCode;
            offset = tokens.start;
            return false;
        }
    }
}
