import java.util.Arrays;
import java.util.NoSuchElementException;

/** Scales for the truth of maps: realms, rivers, dragons, folds, texts, history and saving. */
public final class MapScales {
    private static final int NONE = -1;

    private static final int WIDTH = 8;
    private static final int CELLS = 64;
    private static final int REALMS = 4;
    private static final int RIVERS = 4;
    private static final int STEPS = 12;
    private static final int PLACES = 13;
    private static final int DRAGONS = 5;
    private static final int SIGNS = 60;
    private static final int CHANGES = 6;
    private static final int REASONS = 3;

    private static final int FIRST_COINS = 100;
    private static final int HIGHEST_PRICE = 50;
    private static final int HIGHEST_SCALE = 9;
    private static final int HIGHEST_TOLD = 99;

    // The sides of a cell, in the order of "nesw".
    private static final int SIDES = 4;
    private static final int NORTH = 0;
    private static final int EAST = 1;
    private static final int SOUTH = 2;
    private static final int WEST = 3;

    // The kinds of commands are the signs by which a text tells them.
    private static final int PAINT = 'p';
    private static final int SHAVE = 's';
    private static final int SCALE = 'm';
    private static final int RIVER = 'r';
    private static final int DROP = 'k';
    private static final int DRAGON = 'd';
    private static final int SCARE = 'f';

    // The reasons for refusals, by the numbers that the document gives them.
    private static final int ALLOWED = 0;
    private static final int SO_ALREADY = 1;
    private static final int NOT_SHAVABLE = 2;
    private static final int OF_NO_REALM = 3;
    private static final int NOT_BESIDE = 4;
    private static final int ONLY_CELL = 5;
    private static final int TOO_MANY = 6;
    private static final int LEAVES_MAP = 7;
    private static final int DRAGON_THERE = 8;
    private static final int TOO_FEW_COINS = 9;
    private static final int COMMAND_REFUSED = 10;

    // What the commands of a text can end with, besides their number.
    private static final int NOT_THERE = -1;
    private static final int REFUSED = -2;

    private final Chart chart = new Chart();
    private final Chart before = new Chart();
    private final Chart saved = new Chart();
    private boolean isSaved;
    private final History history = new History();
    private final Command order = new Command();
    private final Reader reader = new Reader();
    // The reader makes the input itself, so that this constructor hands out nothing of its object.
    private final Strip input = reader.text;
    private final Strip line = new Strip();
    private final Refusal kept = new Refusal();
    private final Parts partsFinder = new Parts();
    private int errorKept = NONE;

    public MapScales() {
    }

    // ---- realms, borders

    public int paint(int cell, int realm)
            throws IndexOutOfBoundsException, IllegalArgumentException, UnsupportedOperationException {
        needCell(cell);
        if (realm != NONE && !isRealm(realm)) {
            throw new IllegalArgumentException("there is no such realm");
        }
        order.set(PAINT, cell, realm);
        return change();
    }

    public int shave(int cell, int realm) throws IndexOutOfBoundsException, UnsupportedOperationException {
        needCell(cell);
        needRealm(realm);
        order.set(SHAVE, cell, realm);
        return change();
    }

    public int scale(int miles) throws IllegalArgumentException, UnsupportedOperationException {
        if (!isScale(miles)) {
            throw new IllegalArgumentException("a scale is 1 to 9");
        }
        order.set(SCALE, NONE, miles);
        return change();
    }

    // ---- rivers, dragons

    public int river(int cell, int told)
            throws IndexOutOfBoundsException, IllegalArgumentException, IllegalStateException,
            UnsupportedOperationException {
        order.set(RIVER, cell, told);
        boolean isSteps = reader.isOnlySteps(order);
        input.clear();
        needCell(cell);
        if (told < 0 || told > HIGHEST_TOLD) {
            throw new IllegalArgumentException("a river is told to be 0 to 99 miles long");
        }
        if (!isSteps) {
            throw new IllegalStateException("the input is no steps");
        }
        return change();
    }

    public int drop(int river) throws IndexOutOfBoundsException {
        needRiver(river);
        order.set(DROP, NONE, river);
        return change();
    }

    public int dragon(int cell, int price)
            throws IndexOutOfBoundsException, IllegalArgumentException, UnsupportedOperationException {
        needCell(cell);
        if (!isPrice(price)) {
            throw new IllegalArgumentException("a price is 1 to 50");
        }
        order.set(DRAGON, cell, price);
        return change();
    }

    public int scare(int dragon) throws IndexOutOfBoundsException {
        needDragon(dragon);
        order.set(SCARE, NONE, dragon);
        return change();
    }

    // ---- what is drawn

    public int realmAt(int cell) throws IndexOutOfBoundsException {
        needCell(cell);
        return chart.ownerAt(cell);
    }

    public int realmOf(int realm, int what) throws IndexOutOfBoundsException, IllegalArgumentException {
        needRealm(realm);
        switch (what) {
            case 0: return chart.cellsOf(realm);
            case 1: return chart.coins[realm];
            case 2: return chart.dragonsOf(realm);
            case 3: return chart.won[realm];
            case 4: return chart.lost[realm];
            case 5: return Waters.throughRealm(chart, realm);
            default: throw new IllegalArgumentException("a realm has the numbers 0 to 5");
        }
    }

    public int riverOf(int river, int what) throws IndexOutOfBoundsException, IllegalArgumentException {
        needRiver(river);
        int steps = chart.stepsOf(river);
        switch (what) {
            case 0: return chart.placeOf(river, 0);
            case 1: return steps;
            case 2: return chart.placeOf(river, steps);
            case 3: return chart.toldOf(river);
            case 4: return steps * chart.miles;
            case 5: return Waters.crossings(chart, river);
            default: throw new IllegalArgumentException("a river has the numbers 0 to 5");
        }
    }

    public int riverAt(int river, int place) throws IndexOutOfBoundsException, NoSuchElementException {
        needRiver(river);
        if (place < 0 || place > chart.stepsOf(river)) {
            throw new NoSuchElementException("the river has no such place");
        }
        return chart.placeOf(river, place);
    }

    public int dragonOf(int dragon, int what) throws IndexOutOfBoundsException, IllegalArgumentException {
        needDragon(dragon);
        switch (what) {
            case 0: return chart.dragonCells[dragon];
            case 1: return chart.dragonPrices[dragon];
            case 2: return chart.dragonPayers[dragon];
            default: throw new IllegalArgumentException("a dragon has the numbers 0 to 2");
        }
    }

    // ---- weights, borders, parts

    public int weight(int river) throws IndexOutOfBoundsException {
        needRiver(river);
        return Waters.weightByCells(chart, river);
    }

    public int weightAgain(int river) throws IndexOutOfBoundsException {
        needRiver(river);
        return Waters.weightByRealms(chart, river);
    }

    public int border(int one, int other) throws IndexOutOfBoundsException {
        needRealm(one);
        needRealm(other);
        return Borders.between(chart, one, other);
    }

    public int around(int realm) throws IndexOutOfBoundsException {
        needRealm(realm);
        return Borders.sideBySide(chart, realm);
    }

    public int aroundAgain(int realm) throws IndexOutOfBoundsException {
        needRealm(realm);
        return Borders.lessPairs(chart, realm);
    }

    public int parts(int realm) throws IndexOutOfBoundsException {
        needRealm(realm);
        return partsFinder.byGoing(chart, realm);
    }

    public int partsAgain(int realm) throws IndexOutOfBoundsException {
        needRealm(realm);
        return partsFinder.byJoining(chart, realm);
    }

    public boolean couldShave(int cell, int realm) throws IndexOutOfBoundsException {
        needCell(cell);
        needRealm(realm);
        return Judge.againstShaving(chart, cell, realm) == ALLOWED;
    }

    public int shavable(int realm) throws IndexOutOfBoundsException {
        needRealm(realm);
        int count = 0;
        for (int cell = 0; cell < CELLS; cell++) {
            if (Judge.againstShaving(chart, cell, realm) == ALLOWED) {
                count++;
            }
        }
        return count;
    }

    // ---- folds, lies, orders

    public int lies(boolean isRow, int crease) throws IllegalArgumentException {
        needCrease(crease);
        return Folds.pairByPair(chart, isRow, crease);
    }

    public int liesAgain(boolean isRow, int crease) throws IllegalArgumentException {
        needCrease(crease);
        return Folds.realmByRealm(chart, isRow, crease);
    }

    public int bestFold(boolean isRow) {
        int best = 1;
        int fewest = Folds.pairByPair(chart, isRow, best);
        for (int crease = 2; crease < WIDTH; crease++) {
            int count = Folds.pairByPair(chart, isRow, crease);
            if (count < fewest) {
                best = crease;
                fewest = count;
            }
        }
        return best;
    }

    public int wrong() {
        return Waters.allWrongBy(chart, chart.miles);
    }

    public int bestScale() throws NoSuchElementException {
        if (chart.rivers == 0) {
            throw new NoSuchElementException("there are no rivers");
        }
        int best = 1;
        int least = Waters.allWrongBy(chart, best);
        for (int miles = 2; miles <= HIGHEST_SCALE; miles++) {
            int sum = Waters.allWrongBy(chart, miles);
            if (sum < least) {
                best = miles;
                least = sum;
            }
        }
        return best;
    }

    public int ranked(int place) throws NoSuchElementException {
        for (int realm = 0; realm < REALMS; realm++) {
            if (rankOfRealm(realm) == place) {
                return realm;
            }
        }
        throw new NoSuchElementException("there is no such place among the realms");
    }

    public int heaviest(int place) throws NoSuchElementException {
        for (int river = 0; river < chart.rivers; river++) {
            if (rankOfRiver(river) == place) {
                return river;
            }
        }
        throw new NoSuchElementException("there is no such place among the rivers");
    }

    public boolean isTrue() {
        return areWeightsAlike() && areRealmsAlike() && areLiesAlike() && isWonLost() && areCoinsWhole();
    }

    // ---- lines, means, accounts, texts, history and saving

    public int row(int y) throws IndexOutOfBoundsException {
        if (y < 0 || y >= WIDTH) {
            throw new IndexOutOfBoundsException("there is no such row");
        }
        line.clear();
        for (int cell = y * WIDTH; cell < y * WIDTH + WIDTH; cell++) {
            line.put(signOfCell(cell));
        }
        return line.length;
    }

    public int tell(int river) throws IndexOutOfBoundsException {
        needRiver(river);
        line.clear();
        line.putNumber(chart.placeOf(river, 0));
        line.put(':');
        for (int step = 0; step < chart.stepsOf(river); step++) {
            line.put(signOfStep(chart.placeOf(river, step), chart.placeOf(river, step + 1)));
        }
        line.put('=');
        line.putNumber(chart.toldOf(river));
        if (Waters.wrongBy(chart, river, chart.miles) != 0) {
            line.put('?');
        }
        return line.length;
    }

    public char character(int index) throws NoSuchElementException {
        if (line.signAt(index) == NONE) {
            throw new NoSuchElementException("the line has no such character");
        }
        return (char) line.signAt(index);
    }

    public double meanWrong() throws ArithmeticException {
        if (chart.rivers == 0) {
            throw new ArithmeticException("there are no rivers");
        }
        return (double) Waters.allWrongBy(chart, chart.miles) / (double) chart.rivers;
    }

    public float ownedShare() {
        return (float) chart.ownedCells() / (float) CELLS;
    }

    public int account(int account) throws IllegalArgumentException {
        switch (account) {
            case 0: return chart.ownedCells();
            case 1: return chart.rivers;
            case 2: return chart.dragons;
            case 3: return chart.allCoins();
            case 4: return chart.miles;
            case 5: return chart.shaved;
            case 6: return chart.refunded;
            case 7: return chart.scared;
            case 8: return chart.coinsLost;
            case 9: return input.length;
            case 10: return history.count;
            default: throw new IllegalArgumentException("the accounts are 0 to 10");
        }
    }

    public int append(char character) throws IllegalArgumentException, IllegalStateException {
        if (character < 32 || character > 126) {
            throw new IllegalArgumentException("the codes of characters are 32 to 126");
        }
        if (input.length >= SIGNS) {
            throw new IllegalStateException("the input is full");
        }
        input.put(character);
        return input.length;
    }

    public int read() throws IllegalArgumentException, IllegalStateException, UnsupportedOperationException {
        int error = reader.firstError(order);
        if (error != NONE) {
            errorKept = error;
            input.clear();
            throw new IllegalArgumentException("the input is malformed");
        }
        before.copyFrom(chart);
        int outcome = carryOutText();
        input.clear();
        if (outcome < 0) {
            chart.copyFrom(before);
        }
        if (outcome == NOT_THERE) {
            throw new IllegalStateException("a command tells what is not there, or a number out of range");
        }
        if (outcome == REFUSED) {
            throw new UnsupportedOperationException("a command is refused");
        }
        history.remember(before);
        return outcome;
    }

    public int errorPosition() throws NoSuchElementException {
        if (errorKept == NONE) {
            throw new NoSuchElementException("no error position was kept");
        }
        return errorKept;
    }

    public int reason(int depth, boolean isDetail) throws IllegalArgumentException, NoSuchElementException {
        if (depth < 0 || depth >= REASONS) {
            throw new IllegalArgumentException("the depth is 0 to 2");
        }
        if (depth >= kept.count) {
            throw new NoSuchElementException("no such reason was kept");
        }
        return isDetail ? kept.details[depth] : kept.reasons[depth];
    }

    public int undo() throws NoSuchElementException {
        if (history.count == 0) {
            throw new NoSuchElementException("no change is remembered");
        }
        history.takeBack(chart);
        return history.count;
    }

    public int save() {
        saved.copyFrom(chart);
        isSaved = true;
        return chart.rivers;
    }

    public int restore() throws IllegalStateException {
        if (!isSaved) {
            throw new IllegalStateException("nothing was saved");
        }
        chart.copyFrom(saved);
        history.forget();
        return chart.rivers;
    }

    // ---- what calls need

    private static boolean isCell(int cell) {
        return cell >= 0 && cell < CELLS;
    }

    private static boolean isRealm(int realm) {
        return realm >= 0 && realm < REALMS;
    }

    private static boolean isScale(int miles) {
        return miles >= 1 && miles <= HIGHEST_SCALE;
    }

    private static boolean isPrice(int price) {
        return price >= 1 && price <= HIGHEST_PRICE;
    }

    private static void needCell(int cell) {
        if (!isCell(cell)) {
            throw new IndexOutOfBoundsException("there is no such cell");
        }
    }

    private static void needRealm(int realm) {
        if (!isRealm(realm)) {
            throw new IndexOutOfBoundsException("there is no such realm");
        }
    }

    private static void needCrease(int crease) {
        if (crease < 1 || crease >= WIDTH) {
            throw new IllegalArgumentException("there is no such crease");
        }
    }

    private void needRiver(int river) {
        if (!chart.hasRiver(river)) {
            throw new IndexOutOfBoundsException("there is no such river");
        }
    }

    private void needDragon(int dragon) {
        if (!chart.hasDragon(dragon)) {
            throw new IndexOutOfBoundsException("there is no such dragon");
        }
    }

    // ---- changes

    private int change() {
        int ground = Judge.against(chart, order);
        if (ground != ALLOWED) {
            kept.clear();
            keep(ground);
            throw new UnsupportedOperationException("it is refused");
        }
        history.remember(chart);
        return chart.carryOut(order);
    }

    private int carryOutText() {
        reader.rewind();
        for (int number = 0; number < SIGNS; number++) {
            if (!reader.takeCommand(order) || !Judge.isThere(chart, order)) {
                return NOT_THERE;
            }
            int ground = Judge.against(chart, order);
            if (ground != ALLOWED) {
                kept.clear();
                kept.add(COMMAND_REFUSED, number);
                keep(ground);
                return REFUSED;
            }
            chart.carryOut(order);
            if (!reader.takeSign(';')) {
                return number + 1;
            }
        }
        return NOT_THERE;
    }

    private void keep(int ground) {
        kept.add(ground, Judge.detail(chart, order, ground));
        if (ground == NOT_SHAVABLE) {
            int cause = Judge.againstShaving(chart, order.cell, order.number);
            kept.add(cause, Judge.detail(chart, order, cause));
        }
    }

    // ---- orders

    private int rankOfRealm(int realm) {
        int rank = 0;
        for (int other = 0; other < REALMS; other++) {
            if (other != realm && isRealmAhead(other, realm)) {
                rank++;
            }
        }
        return rank;
    }

    private boolean isRealmAhead(int one, int other) {
        int cells = Integer.compare(chart.cellsOf(one), chart.cellsOf(other));
        if (cells != 0) {
            return cells > 0;
        }
        int coins = Integer.compare(chart.coinsOf(one), chart.coinsOf(other));
        return coins != 0 ? coins > 0 : one < other;
    }

    private int rankOfRiver(int river) {
        int rank = 0;
        for (int other = 0; other < chart.rivers; other++) {
            if (other != river && isRiverAhead(other, river)) {
                rank++;
            }
        }
        return rank;
    }

    private boolean isRiverAhead(int one, int other) {
        int weights = Integer.compare(Waters.weightByCells(chart, one), Waters.weightByCells(chart, other));
        if (weights != 0) {
            return weights > 0;
        }
        int steps = Integer.compare(chart.stepsOf(one), chart.stepsOf(other));
        return steps != 0 ? steps > 0 : one < other;
    }

    // ---- truth

    private boolean areWeightsAlike() {
        for (int river = 0; river < chart.rivers; river++) {
            if (Waters.weightByCells(chart, river) != Waters.weightByRealms(chart, river)) {
                return false;
            }
        }
        return true;
    }

    private boolean areRealmsAlike() {
        for (int realm = 0; realm < REALMS; realm++) {
            if (Borders.sideBySide(chart, realm) != Borders.lessPairs(chart, realm)
                    || partsFinder.byGoing(chart, realm) != partsFinder.byJoining(chart, realm)) {
                return false;
            }
        }
        return true;
    }

    private boolean areLiesAlike() {
        for (int crease = 1; crease < WIDTH; crease++) {
            if (Folds.pairByPair(chart, true, crease) != Folds.realmByRealm(chart, true, crease)
                    || Folds.pairByPair(chart, false, crease) != Folds.realmByRealm(chart, false, crease)) {
                return false;
            }
        }
        return true;
    }

    private boolean isWonLost() {
        int difference = 0;
        for (int realm = 0; realm < REALMS; realm++) {
            difference += chart.won[realm] - chart.lost[realm];
        }
        return difference == 0;
    }

    private boolean areCoinsWhole() {
        int sum = chart.allCoins() + chart.coinsLost;
        for (int dragon = 0; dragon < chart.dragons && dragon < DRAGONS; dragon++) {
            sum += chart.dragonPrices[dragon];
        }
        return sum == FIRST_COINS * REALMS;
    }

    // ---- signs

    private char signOfCell(int cell) {
        int owner = chart.ownerAt(cell);
        if (owner == NONE) {
            return '.';
        }
        return (char) ((chart.dragonOn(cell) == NONE ? 'a' : 'A') + owner);
    }

    private static char signOfStep(int from, int to) {
        if (to == from + 1) {
            return 'e';
        }
        if (to == from - 1) {
            return 'w';
        }
        return to > from ? 's' : 'n';
    }

    /** The cell beside a cell on one of its sides, NONE behind the edge of the map. */
    private static int beside(int cell, int side) {
        if (!isCell(cell)) {
            return NONE;
        }
        switch (side) {
            case NORTH: return cell >= WIDTH ? cell - WIDTH : NONE;
            case EAST: return cell % WIDTH < WIDTH - 1 ? cell + 1 : NONE;
            case SOUTH: return cell < CELLS - WIDTH ? cell + WIDTH : NONE;
            case WEST: return cell % WIDTH > 0 ? cell - 1 : NONE;
            default: return NONE;
        }
    }

    /** All that the history remembers: what is drawn, and what it came to. */
    private static final class Chart {
        final int[] owners = new int[CELLS];
        final int[] coins = new int[REALMS];
        final int[] won = new int[REALMS];
        final int[] lost = new int[REALMS];
        final int[] riverPlaces = new int[RIVERS * PLACES];
        final int[] riverSteps = new int[RIVERS];
        final int[] riverTold = new int[RIVERS];
        final int[] dragonCells = new int[DRAGONS];
        final int[] dragonPrices = new int[DRAGONS];
        final int[] dragonPayers = new int[DRAGONS];
        int rivers;
        int dragons;
        int miles = 1;
        int shaved;
        int refunded;
        int scared;
        int coinsLost;

        Chart() {
            Arrays.fill(owners, NONE);
            Arrays.fill(coins, FIRST_COINS);
        }

        void copyFrom(Chart other) {
            System.arraycopy(other.owners, 0, owners, 0, CELLS);
            System.arraycopy(other.coins, 0, coins, 0, REALMS);
            System.arraycopy(other.won, 0, won, 0, REALMS);
            System.arraycopy(other.lost, 0, lost, 0, REALMS);
            System.arraycopy(other.riverPlaces, 0, riverPlaces, 0, RIVERS * PLACES);
            System.arraycopy(other.riverSteps, 0, riverSteps, 0, RIVERS);
            System.arraycopy(other.riverTold, 0, riverTold, 0, RIVERS);
            System.arraycopy(other.dragonCells, 0, dragonCells, 0, DRAGONS);
            System.arraycopy(other.dragonPrices, 0, dragonPrices, 0, DRAGONS);
            System.arraycopy(other.dragonPayers, 0, dragonPayers, 0, DRAGONS);
            rivers = other.rivers;
            dragons = other.dragons;
            miles = other.miles;
            shaved = other.shaved;
            refunded = other.refunded;
            scared = other.scared;
            coinsLost = other.coinsLost;
        }

        int ownerAt(int cell) {
            return isCell(cell) ? owners[cell] : NONE;
        }

        int coinsOf(int realm) {
            return isRealm(realm) ? coins[realm] : 0;
        }

        int allCoins() {
            int sum = 0;
            for (int realm = 0; realm < REALMS; realm++) {
                sum += coins[realm];
            }
            return sum;
        }

        int cellsOf(int realm) {
            int count = 0;
            for (int cell = 0; cell < CELLS; cell++) {
                if (owners[cell] == realm) {
                    count++;
                }
            }
            return count;
        }

        int ownedCells() {
            return CELLS - cellsOf(NONE);
        }

        boolean isRealmBeside(int cell, int realm) {
            for (int side = 0; side < SIDES; side++) {
                int other = beside(cell, side);
                if (other != NONE && ownerAt(other) == realm) {
                    return true;
                }
            }
            return false;
        }

        boolean hasRiver(int river) {
            return river >= 0 && river < rivers && river < RIVERS;
        }

        int stepsOf(int river) {
            return hasRiver(river) ? riverSteps[river] : 0;
        }

        int toldOf(int river) {
            return hasRiver(river) ? riverTold[river] : 0;
        }

        int placeOf(int river, int place) {
            return hasRiver(river) && place >= 0 && place < PLACES ? riverPlaces[river * PLACES + place] : NONE;
        }

        boolean hasDragon(int dragon) {
            return dragon >= 0 && dragon < dragons && dragon < DRAGONS;
        }

        int dragonOn(int cell) {
            for (int dragon = 0; dragon < dragons && dragon < DRAGONS; dragon++) {
                if (dragonCells[dragon] == cell) {
                    return dragon;
                }
            }
            return NONE;
        }

        int dragonsOf(int realm) {
            int count = 0;
            for (int dragon = 0; dragon < dragons && dragon < DRAGONS; dragon++) {
                if (ownerAt(dragonCells[dragon]) == realm) {
                    count++;
                }
            }
            return count;
        }

        /** Carries out what the judge has nothing against, and returns what its method of the face returns. */
        int carryOut(Command order) {
            switch (order.kind) {
                case PAINT: return give(order.cell, order.number);
                case SHAVE: return conquer(order.cell, order.number);
                case SCALE: return setMiles(order.number);
                case RIVER: return addRiver(order);
                case DROP: return removeRiver(order.number);
                case DRAGON: return addDragon(order.cell, order.number);
                case SCARE: return chase(order.number);
                default: return NONE;
            }
        }

        private int give(int cell, int realm) {
            if (!isCell(cell)) {
                return NONE;
            }
            int owner = owners[cell];
            owners[cell] = realm;
            refund(dragonOn(cell));
            return owner;
        }

        private void refund(int dragon) {
            if (!hasDragon(dragon)) {
                return;
            }
            int payer = dragonPayers[dragon];
            if (isRealm(payer)) {
                coins[payer] += dragonPrices[dragon];
            }
            refunded++;
            removeDragon(dragon);
        }

        private int conquer(int cell, int realm) {
            int owner = give(cell, realm);
            if (isRealm(owner) && isRealm(realm)) {
                won[realm]++;
                lost[owner]++;
            }
            shaved++;
            return owner;
        }

        private int setMiles(int number) {
            int old = miles;
            miles = number;
            return old;
        }

        private int addRiver(Command order) {
            if (rivers < 0 || rivers >= RIVERS) {
                return NONE;
            }
            int cell = order.cell;
            int first = rivers * PLACES;
            riverPlaces[first] = cell;
            for (int step = 0; step < order.steps && step < STEPS; step++) {
                cell = beside(cell, order.sides[step]);
                riverPlaces[first + step + 1] = cell;
            }
            riverSteps[rivers] = order.steps;
            riverTold[rivers] = order.number;
            rivers++;
            return rivers - 1;
        }

        private int removeRiver(int river) {
            if (!hasRiver(river)) {
                return rivers;
            }
            for (int to = river; to + 1 < rivers && to + 1 < RIVERS; to++) {
                riverSteps[to] = riverSteps[to + 1];
                riverTold[to] = riverTold[to + 1];
                System.arraycopy(riverPlaces, (to + 1) * PLACES, riverPlaces, to * PLACES, PLACES);
            }
            rivers--;
            return rivers;
        }

        private int addDragon(int cell, int price) {
            int payer = ownerAt(cell);
            if (dragons < 0 || dragons >= DRAGONS || !isRealm(payer)) {
                return NONE;
            }
            coins[payer] -= price;
            dragonCells[dragons] = cell;
            dragonPrices[dragons] = price;
            dragonPayers[dragons] = payer;
            dragons++;
            return dragons - 1;
        }

        private int chase(int dragon) {
            if (!hasDragon(dragon)) {
                return NONE;
            }
            int price = dragonPrices[dragon];
            scared++;
            coinsLost += price;
            removeDragon(dragon);
            return price;
        }

        private void removeDragon(int dragon) {
            for (int to = dragon; to >= 0 && to + 1 < dragons && to + 1 < DRAGONS; to++) {
                dragonCells[to] = dragonCells[to + 1];
                dragonPrices[to] = dragonPrices[to + 1];
                dragonPayers[to] = dragonPayers[to + 1];
            }
            dragons--;
        }
    }

    /** A change that is asked for, by a call or by a command of a text. */
    private static final class Command {
        int kind;
        int cell;
        int number;
        int steps;
        final int[] sides = new int[STEPS];

        void set(int newKind, int newCell, int newNumber) {
            kind = newKind;
            cell = newCell;
            number = newNumber;
            steps = 0;
        }

        /** The first step by which a river leaves the map, NONE if it stays there. */
        int leavingStep() {
            int place = cell;
            for (int step = 0; step < steps && step < STEPS; step++) {
                place = beside(place, sides[step]);
                if (place == NONE) {
                    return step;
                }
            }
            return NONE;
        }
    }

    /** Tells whether something is refused, and for what. */
    private static final class Judge {
        static boolean isThere(Chart chart, Command order) {
            switch (order.kind) {
                case PAINT:
                case SHAVE:
                case RIVER: return isCell(order.cell);
                case SCALE: return isScale(order.number);
                case DROP: return chart.hasRiver(order.number);
                case DRAGON: return isCell(order.cell) && isPrice(order.number);
                case SCARE: return chart.hasDragon(order.number);
                default: return false;
            }
        }

        static int against(Chart chart, Command order) {
            switch (order.kind) {
                case PAINT: return chart.ownerAt(order.cell) == order.number ? SO_ALREADY : ALLOWED;
                case SHAVE:
                    int ground = againstShaving(chart, order.cell, order.number);
                    return ground == ALLOWED || ground == SO_ALREADY ? ground : NOT_SHAVABLE;
                case SCALE: return chart.miles == order.number ? SO_ALREADY : ALLOWED;
                case RIVER: return againstRiver(chart, order);
                case DRAGON: return againstDragon(chart, order.cell, order.number);
                default: return ALLOWED;
            }
        }

        /** What is against shaving: that it is so already, or the cause why the border cannot be shaved. */
        static int againstShaving(Chart chart, int cell, int realm) {
            int owner = chart.ownerAt(cell);
            if (owner == realm) {
                return SO_ALREADY;
            }
            if (owner == NONE) {
                return OF_NO_REALM;
            }
            if (!chart.isRealmBeside(cell, realm)) {
                return NOT_BESIDE;
            }
            return chart.cellsOf(owner) == 1 ? ONLY_CELL : ALLOWED;
        }

        private static int againstRiver(Chart chart, Command order) {
            if (chart.rivers >= RIVERS) {
                return TOO_MANY;
            }
            return order.leavingStep() != NONE ? LEAVES_MAP : ALLOWED;
        }

        private static int againstDragon(Chart chart, int cell, int price) {
            int owner = chart.ownerAt(cell);
            if (owner == NONE) {
                return OF_NO_REALM;
            }
            if (chart.dragonOn(cell) != NONE) {
                return DRAGON_THERE;
            }
            if (chart.dragons >= DRAGONS) {
                return TOO_MANY;
            }
            return chart.coinsOf(owner) < price ? TOO_FEW_COINS : ALLOWED;
        }

        static int detail(Chart chart, Command order, int ground) {
            switch (ground) {
                case SO_ALREADY:
                case NOT_BESIDE: return order.number;
                case NOT_SHAVABLE:
                case OF_NO_REALM: return order.cell;
                case ONLY_CELL: return chart.ownerAt(order.cell);
                case TOO_MANY: return order.kind == RIVER ? RIVERS : DRAGONS;
                case LEAVES_MAP: return order.leavingStep();
                case DRAGON_THERE: return chart.dragonOn(order.cell);
                case TOO_FEW_COINS: return chart.coinsOf(chart.ownerAt(order.cell));
                default: return NONE;
            }
        }
    }

    /** The reason that was kept last, with its causes. */
    private static final class Refusal {
        final int[] reasons = new int[REASONS];
        final int[] details = new int[REASONS];
        int count;

        void clear() {
            count = 0;
        }

        void add(int ground, int detail) {
            if (count >= 0 && count < REASONS) {
                reasons[count] = ground;
                details[count] = detail;
                count++;
            }
        }
    }

    /** The charts as they were just before the latest changes. */
    private static final class History {
        final Chart[] charts = new Chart[CHANGES];
        int oldest;
        int count;

        History() {
            for (int k = 0; k < CHANGES; k++) {
                charts[k] = new Chart();
            }
        }

        void remember(Chart chart) {
            if (count >= CHANGES) {
                oldest = (oldest + 1) % CHANGES;
                count = CHANGES - 1;
            }
            Chart slot = slot(count);
            if (slot != null) {
                slot.copyFrom(chart);
                count++;
            }
        }

        void takeBack(Chart chart) {
            Chart slot = slot(count - 1);
            if (slot != null) {
                chart.copyFrom(slot);
                count--;
            }
        }

        void forget() {
            count = 0;
        }

        private Chart slot(int age) {
            int index = (oldest + age) % CHANGES;
            return index >= 0 && index < CHANGES ? charts[index] : null;
        }
    }

    /** Signs in a row: the input, or the line. */
    private static final class Strip {
        final char[] signs = new char[SIGNS];
        int length;

        void clear() {
            length = 0;
        }

        void put(char sign) {
            if (length >= 0 && length < SIGNS) {
                signs[length] = sign;
                length++;
            }
        }

        void putNumber(int number) {
            if (number >= 10) {
                put((char) ('0' + number / 10));
            }
            put((char) ('0' + number % 10));
        }

        int signAt(int index) {
            return index >= 0 && index < length && index < SIGNS ? signs[index] : NONE;
        }
    }

    /** Takes a text apart. Where it can't go on, it stands at the error position. */
    private static final class Reader {
        final Strip text = new Strip();
        int place;

        void rewind() {
            place = 0;
        }

        /** The error position of the text, NONE if it is not malformed. */
        int firstError(Command order) {
            rewind();
            for (int number = 0; number < SIGNS; number++) {
                if (!takeCommand(order)) {
                    return place;
                }
                if (place == text.length) {
                    return NONE;
                }
                if (!takeSign(';')) {
                    return place;
                }
            }
            return place;
        }

        boolean isOnlySteps(Command order) {
            rewind();
            return takeSteps(order) && place == text.length;
        }

        boolean takeCommand(Command order) {
            int kind = text.signAt(place);
            order.set(kind, NONE, NONE);
            place++;
            switch (kind) {
                case PAINT: return takeCell(order) && takeRealm(order, true);
                case SHAVE: return takeCell(order) && takeRealm(order, false);
                case RIVER:
                    return takeCell(order) && takeSign(':') && takeSteps(order) && takeSign('=')
                            && takeNumber(order);
                case DRAGON: return takeCell(order) && takeSign('/') && takeNumber(order);
                case SCALE:
                case DROP:
                case SCARE:
                    order.number = takeDigit();
                    return order.number != NONE;
                default:
                    place--;
                    return false;
            }
        }

        boolean takeSign(int sign) {
            if (text.signAt(place) != sign) {
                return false;
            }
            place++;
            return true;
        }

        private boolean takeCell(Command order) {
            order.cell = takeDigits();
            return order.cell != NONE;
        }

        private boolean takeNumber(Command order) {
            order.number = takeDigits();
            return order.number != NONE;
        }

        private boolean takeRealm(Command order, boolean isNoneFine) {
            if (isNoneFine && takeSign('.')) {
                order.number = NONE;
                return true;
            }
            int realm = text.signAt(place) - 'a';
            if (!isRealm(realm)) {
                return false;
            }
            place++;
            order.number = realm;
            return true;
        }

        private boolean takeSteps(Command order) {
            order.steps = 0;
            for (int step = 0; step < STEPS; step++) {
                int side = sideOf(text.signAt(place));
                if (side == NONE) {
                    break;
                }
                place++;
                order.sides[step] = side;
                order.steps = step + 1;
            }
            return order.steps > 0;
        }

        private static int sideOf(int sign) {
            switch (sign) {
                case 'n': return NORTH;
                case 'e': return EAST;
                case 's': return SOUTH;
                case 'w': return WEST;
                default: return NONE;
            }
        }

        private int takeDigits() {
            int first = takeDigit();
            if (first == NONE) {
                return NONE;
            }
            int second = takeDigit();
            return second == NONE ? first : first * 10 + second;
        }

        private int takeDigit() {
            int digit = text.signAt(place) - '0';
            if (digit < 0 || digit > 9) {
                return NONE;
            }
            place++;
            return digit;
        }
    }

    /** What is asked of rivers. */
    private static final class Waters {
        static boolean isCrossing(Chart chart, int river, int step) {
            return chart.ownerAt(chart.placeOf(river, step)) != chart.ownerAt(chart.placeOf(river, step + 1));
        }

        static int crossings(Chart chart, int river) {
            int count = 0;
            for (int step = 0; step < chart.stepsOf(river); step++) {
                if (isCrossing(chart, river, step)) {
                    count++;
                }
            }
            return count;
        }

        static int weightByCells(Chart chart, int river) {
            int sum = 0;
            for (int place = 0; place <= chart.stepsOf(river); place++) {
                sum += chart.ownerAt(chart.placeOf(river, place)) == NONE ? 1 : 2;
                if (place > 0 && isCrossing(chart, river, place - 1)) {
                    sum += 3;
                }
            }
            return sum;
        }

        static int weightByRealms(Chart chart, int river) {
            int sum = 3 * chart.stepsOf(river);
            for (int realm = NONE; realm < REALMS; realm++) {
                sum += (realm == NONE ? 1 : 2) * cellsOfRealm(chart, river, realm);
                sum -= 3 * stepsInRealm(chart, river, realm);
            }
            return sum;
        }

        private static int cellsOfRealm(Chart chart, int river, int realm) {
            int count = 0;
            for (int place = 0; place <= chart.stepsOf(river); place++) {
                if (chart.ownerAt(chart.placeOf(river, place)) == realm) {
                    count++;
                }
            }
            return count;
        }

        private static int stepsInRealm(Chart chart, int river, int realm) {
            int count = 0;
            for (int step = 0; step < chart.stepsOf(river); step++) {
                if (chart.ownerAt(chart.placeOf(river, step)) == realm
                        && chart.ownerAt(chart.placeOf(river, step + 1)) == realm) {
                    count++;
                }
            }
            return count;
        }

        static int throughRealm(Chart chart, int realm) {
            int count = 0;
            for (int river = 0; river < chart.rivers; river++) {
                if (cellsOfRealm(chart, river, realm) > 0) {
                    count++;
                }
            }
            return count;
        }

        static int wrongBy(Chart chart, int river, int miles) {
            return Math.abs(chart.toldOf(river) - chart.stepsOf(river) * miles);
        }

        static int allWrongBy(Chart chart, int miles) {
            int sum = 0;
            for (int river = 0; river < chart.rivers; river++) {
                sum += wrongBy(chart, river, miles);
            }
            return sum;
        }
    }

    /** What is asked of borders. */
    private static final class Borders {
        static int between(Chart chart, int one, int other) {
            if (one == other) {
                return 0;
            }
            return pairs(chart, one, other) + pairs(chart, other, one);
        }

        /** How many cells of a realm have one of the other realm, or of the same, to the east or to the south. */
        private static int pairs(Chart chart, int realm, int next) {
            int count = 0;
            for (int cell = 0; cell < CELLS; cell++) {
                if (chart.ownerAt(cell) != realm) {
                    continue;
                }
                if (chart.ownerAt(beside(cell, EAST)) == next) {
                    count++;
                }
                if (chart.ownerAt(beside(cell, SOUTH)) == next) {
                    count++;
                }
            }
            return count;
        }

        static int sideBySide(Chart chart, int realm) {
            int count = 0;
            for (int cell = 0; cell < CELLS; cell++) {
                if (chart.ownerAt(cell) != realm) {
                    continue;
                }
                for (int side = 0; side < SIDES; side++) {
                    if (chart.ownerAt(beside(cell, side)) != realm) {
                        count++;
                    }
                }
            }
            return count;
        }

        static int lessPairs(Chart chart, int realm) {
            return SIDES * chart.cellsOf(realm) - 2 * pairs(chart, realm, realm);
        }
    }

    /** Counts the parts of a realm. Its rows are made once, for all calls. */
    private static final class Parts {
        final int[] marks = new int[CELLS];
        final int[] reached = new int[CELLS];

        int byGoing(Chart chart, int realm) {
            Arrays.fill(marks, 0);
            int count = 0;
            for (int cell = 0; cell < CELLS; cell++) {
                if (marks[cell] == 0 && chart.ownerAt(cell) == realm) {
                    count++;
                    goFrom(chart, cell, realm);
                }
            }
            return count;
        }

        private void goFrom(Chart chart, int start, int realm) {
            int found = addReached(start, 0);
            for (int next = 0; next < found && next < CELLS; next++) {
                for (int side = 0; side < SIDES; side++) {
                    int cell = beside(reached[next], side);
                    if (cell != NONE && chart.ownerAt(cell) == realm) {
                        found = addReached(cell, found);
                    }
                }
            }
        }

        private int addReached(int cell, int found) {
            if (!isCell(cell) || found < 0 || found >= CELLS || marks[cell] != 0) {
                return found;
            }
            marks[cell] = 1;
            reached[found] = cell;
            return found + 1;
        }

        int byJoining(Chart chart, int realm) {
            for (int cell = 0; cell < CELLS; cell++) {
                marks[cell] = cell;
            }
            int count = chart.cellsOf(realm);
            for (int cell = 0; cell < CELLS; cell++) {
                if (chart.ownerAt(cell) == realm) {
                    count -= joinTo(chart, cell, beside(cell, EAST));
                    count -= joinTo(chart, cell, beside(cell, SOUTH));
                }
            }
            return count;
        }

        /** Joins the parts of two cells, and returns how many parts fewer there are then. */
        private int joinTo(Chart chart, int cell, int other) {
            if (other == NONE || chart.ownerAt(other) != chart.ownerAt(cell)) {
                return 0;
            }
            int one = headOf(cell);
            int two = headOf(other);
            if (one == two || !isCell(one) || !isCell(two)) {
                return 0;
            }
            marks[Math.max(one, two)] = Math.min(one, two);
            return 1;
        }

        private int headOf(int cell) {
            int head = cell;
            for (int k = 0; k < CELLS && isCell(head) && marks[head] != head; k++) {
                head = marks[head];
            }
            return head;
        }
    }

    /** What is asked of folds. */
    private static final class Folds {
        /** How many rows or columns lie upon others. */
        static int depth(int crease) {
            return Math.min(crease, WIDTH - crease);
        }

        static int ownerAt(Chart chart, boolean isRow, int across, int along) {
            return chart.ownerAt(isRow ? across * WIDTH + along : along * WIDTH + across);
        }

        static int pairByPair(Chart chart, boolean isRow, int crease) {
            int count = 0;
            for (int k = 0; k < depth(crease); k++) {
                for (int along = 0; along < WIDTH; along++) {
                    if (ownerAt(chart, isRow, crease - 1 - k, along) != ownerAt(chart, isRow, crease + k, along)) {
                        count++;
                    }
                }
            }
            return count;
        }

        static int realmByRealm(Chart chart, boolean isRow, int crease) {
            int count = WIDTH * depth(crease);
            for (int realm = NONE; realm < REALMS; realm++) {
                count -= alike(chart, isRow, crease, realm);
            }
            return count;
        }

        private static int alike(Chart chart, boolean isRow, int crease, int realm) {
            int count = 0;
            for (int k = 0; k < depth(crease); k++) {
                for (int along = 0; along < WIDTH; along++) {
                    if (ownerAt(chart, isRow, crease - 1 - k, along) == realm
                            && ownerAt(chart, isRow, crease + k, along) == realm) {
                        count++;
                    }
                }
            }
            return count;
        }
    }
}
