import java.util.Arrays;
import java.util.NoSuchElementException;

/** A court that summons by boomerang. What its calls promise stands in the document. */
public final class BoomerangCourt {
    private static final int CELLS = 64;
    private static final int THROWS = 64;
    private static final int PARTS = 8;
    private static final int LONGEST_FLIGHT = 35;
    private static final int MOST_PARTIES = 8;
    private static final int STRONGEST_WIND = 3;
    private static final int BOOMERANG_PRICE = 2;
    private static final int MOST_BOUGHT = 20;
    private static final int MOST_PASSED = 48;
    private static final int DAY = 24;
    private static final int PLEA_HOURS = 24;
    private static final int MOST_UNDONE = 8;
    private static final int TEXT_LIMIT = 60;
    private static final int FIRST_COINS = 50;
    private static final int FIRST_BOOMERANGS = 10;
    private static final int FIRST_SITTING = 0x3FF00;

    /** A plea waits at most 8 hours for its first hour, then 24 more; the present hour counts too. */
    private static final int HOURS_AHEAD = LONGEST_FLIGHT / 4 + PLEA_HOURS + 1;

    /** The shortest command and its semicolon are 6 characters, so a text has less than this. */
    private static final int COMMANDS_READ = TEXT_LIMIT / 6 + 1;

    private static final int NONE = -1;

    private static final long FIRST_COLUMN = 0x0101010101010101L;
    private static final long LAST_COLUMN = FIRST_COLUMN << 7;

    private static final int[] STEP_X = {1, 1, 0, -1, -1, -1, 0, 1};
    private static final int[] STEP_Y = {0, 1, 1, 1, 0, -1, -1, -1};

    // How a call can fail; run() asks for this too, so that it needs no exceptions of its commands.
    private static final int FINE = 0;
    private static final int BAD_INDEX = 1;
    private static final int BAD_ARGUMENT = 2;
    private static final int BAD_STATE = 3;
    private static final int REFUSED = 4;

    private static final int TREE_IN_CELL = 1;
    private static final int PARTY_IN_CELL = 2;
    private static final int BENCH_IN_CELL = 3;
    private static final int NO_BOOMERANG = 4;
    private static final int PLEA_WAITS = 5;
    private static final int NOT_SITTING = 6;
    private static final int TOO_EARLY = 7;

    private final State now = new State();
    private final State saved = new State();
    private final State beforeRun = new State();
    private final History history = new History();
    private final Flight flight = new Flight();
    private final HearingPlan plan = new HearingPlan();
    private final CommandText text = new CommandText();
    private final Line line = new Line();
    private final int[] cellQueue = new int[CELLS];
    private boolean isSaved;
    private int keptReason;
    private int keptDetail;
    private int keptErrorPosition = NONE;
    private int keptFailedCommand = NONE;

    public BoomerangCourt() {
    }

    // ---- the yard

    public int setTree(int x, int y, boolean isTree) throws IndexOutOfBoundsException, UnsupportedOperationException {
        int fault = checkTree(x, y, isTree);
        if (fault == BAD_INDEX) {
            throw new IndexOutOfBoundsException("there is no such cell");
        }
        if (fault == REFUSED) {
            throw new UnsupportedOperationException("the tree is refused");
        }
        history.remember(now);
        return plant(x, y, isTree);
    }

    public int setBench(int x, int y) throws IndexOutOfBoundsException, UnsupportedOperationException {
        int fault = checkBench(x, y);
        if (fault == BAD_INDEX) {
            throw new IndexOutOfBoundsException("there is no such cell");
        }
        if (fault == REFUSED) {
            throw new UnsupportedOperationException("the bench is refused");
        }
        history.remember(now);
        return placeBench(x, y);
    }

    public long treeBits() {
        return now.yard.trees;
    }

    public long turnedTrees() {
        return now.yard.turnedByExchange();
    }

    public long turnedTreesByCells() {
        return now.yard.turnedCellByCell();
    }

    public long reach(int x, int y) throws IndexOutOfBoundsException {
        if (!isCell(x, y)) {
            throw new IndexOutOfBoundsException("there is no such cell");
        }
        return now.yard.connectedBySets(cellAt(x, y));
    }

    public long reachByQueue(int x, int y) throws IndexOutOfBoundsException {
        if (!isCell(x, y)) {
            throw new IndexOutOfBoundsException("there is no such cell");
        }
        return connectedByQueue(cellAt(x, y));
    }

    public int setWind(int direction, int strength) throws IllegalArgumentException {
        if (checkWind(direction, strength) != FINE) {
            throw new IllegalArgumentException("the direction or the strength is out of range");
        }
        history.remember(now);
        return turnWind(direction, strength);
    }

    public int bench() {
        return now.yard.benchCell;
    }

    // ---- parties

    public int addParty(int x, int y)
            throws IndexOutOfBoundsException, IllegalStateException, UnsupportedOperationException {
        int fault = checkNewParty(x, y);
        if (fault == BAD_INDEX) {
            throw new IndexOutOfBoundsException("there is no such cell");
        }
        if (fault == BAD_STATE) {
            throw new IllegalStateException("there are 8 parties");
        }
        if (fault == REFUSED) {
            throw new UnsupportedOperationException("the party is refused");
        }
        history.remember(now);
        return seatParty(x, y);
    }

    public int moveParty(int party, int x, int y) throws IndexOutOfBoundsException, UnsupportedOperationException {
        int fault = checkMove(party, x, y);
        if (fault == BAD_INDEX) {
            throw new IndexOutOfBoundsException("there is no such party or no such cell");
        }
        if (fault == REFUSED) {
            throw new UnsupportedOperationException("the move is refused");
        }
        history.remember(now);
        return shiftParty(party, x, y);
    }

    public int partyCount() {
        return now.yard.parties;
    }

    public int cellOf(int party) throws IndexOutOfBoundsException {
        if (!now.yard.hasParty(party)) {
            throw new IndexOutOfBoundsException("there is no such party");
        }
        return now.yard.partyCells[party];
    }

    public int partyIn(int x, int y) throws IndexOutOfBoundsException, NoSuchElementException {
        if (!isCell(x, y)) {
            throw new IndexOutOfBoundsException("there is no such cell");
        }
        int party = now.yard.partyAt(cellAt(x, y));
        if (party == NONE) {
            throw new NoSuchElementException("no party is in the cell");
        }
        return party;
    }

    public int servedCount(int party) throws IndexOutOfBoundsException {
        if (!now.yard.hasParty(party)) {
            throw new IndexOutOfBoundsException("there is no such party");
        }
        return now.ledger.served[party];
    }

    // ---- throws

    public int flightLength(int number) throws IllegalArgumentException {
        if (!isThrow(number)) {
            throw new IllegalArgumentException("there is no such throw");
        }
        flight.fly(now.yard, number);
        return flight.length;
    }

    public int flightCell(int number, int steps) throws IllegalArgumentException, NoSuchElementException {
        if (!isThrow(number)) {
            throw new IllegalArgumentException("there is no such throw");
        }
        flight.fly(now.yard, number);
        if (steps < 0 || steps > flight.length) {
            throw new NoSuchElementException("the flight does not have as many steps");
        }
        return flight.cells[steps];
    }

    public char flightEnd(int number) throws IllegalArgumentException {
        if (!isThrow(number)) {
            throw new IllegalArgumentException("there is no such throw");
        }
        flight.fly(now.yard, number);
        return flight.end;
    }

    public long flightBits(int number) throws IllegalArgumentException {
        if (!isThrow(number)) {
            throw new IllegalArgumentException("there is no such throw");
        }
        flight.fly(now.yard, number);
        return flight.enteredCells();
    }

    public long servingThrows(int party) throws IndexOutOfBoundsException {
        if (!now.yard.hasParty(party)) {
            throw new IndexOutOfBoundsException("there is no such party");
        }
        int cell = now.yard.partyCells[party];
        long set = 0;
        for (int number = 0; number < THROWS; number++) {
            flight.fly(now.yard, number);
            if (flight.stepsTo(cell) != NONE) {
                set |= 1L << number;
            }
        }
        return set;
    }

    public long servingThrowsBySets(int party) throws IndexOutOfBoundsException {
        if (!now.yard.hasParty(party)) {
            throw new IndexOutOfBoundsException("there is no such party");
        }
        int cell = now.yard.partyCells[party];
        long set = 0;
        for (int number = 0; number < THROWS; number++) {
            set |= ((flightBits(number) >>> cell) & 1L) << number;
        }
        return set;
    }

    public int bestThrow(int party) throws IndexOutOfBoundsException, NoSuchElementException {
        if (!now.yard.hasParty(party)) {
            throw new IndexOutOfBoundsException("there is no such party");
        }
        int best = quickestShortestThrow(now.yard.partyCells[party]);
        if (best == NONE) {
            throw new NoSuchElementException("no throw would serve the party");
        }
        return best;
    }

    public boolean summon(int party, int number)
            throws IndexOutOfBoundsException, IllegalArgumentException, UnsupportedOperationException {
        int fault = checkSummons(party, number);
        if (fault == BAD_INDEX) {
            throw new IndexOutOfBoundsException("there is no such party");
        }
        if (fault == BAD_ARGUMENT) {
            throw new IllegalArgumentException("there is no such throw");
        }
        if (fault == REFUSED) {
            throw new UnsupportedOperationException("the summons is refused");
        }
        history.remember(now);
        return throwAt(party, number);
    }

    public int buyBoomerangs(int count) throws IllegalArgumentException, IllegalStateException {
        int fault = checkPurchase(count);
        if (fault == BAD_ARGUMENT) {
            throw new IllegalArgumentException("the number is out of range");
        }
        if (fault == BAD_STATE) {
            throw new IllegalStateException("the court has fewer coins than that");
        }
        history.remember(now);
        return purchase(count);
    }

    public int boomerangs() {
        return now.ledger.boomerangs;
    }

    public int throwCount() {
        return now.ledger.thrown;
    }

    // ---- pleas

    public boolean setSitting(int hourOfDay, boolean sits) throws IndexOutOfBoundsException {
        if (hourOfDay < 0 || hourOfDay >= DAY) {
            throw new IndexOutOfBoundsException("there is no such hour");
        }
        history.remember(now);
        boolean sat = now.docket.sitsAt(hourOfDay);
        int bit = 1 << hourOfDay;
        now.docket.sitting = sits ? now.docket.sitting | bit : now.docket.sitting & ~bit;
        return sat;
    }

    public int sittingBits() {
        return now.docket.sitting;
    }

    public int pleaCount() {
        return now.docket.count;
    }

    public int pleaParty(int plea) throws IndexOutOfBoundsException {
        if (!now.docket.hasPlea(plea)) {
            throw new IndexOutOfBoundsException("there is no such plea");
        }
        return now.docket.parties[plea];
    }

    public int pleaFrom(int plea) throws IndexOutOfBoundsException {
        if (!now.docket.hasPlea(plea)) {
            throw new IndexOutOfBoundsException("there is no such plea");
        }
        return now.docket.firstHours[plea];
    }

    public int pleaUntil(int plea) throws IndexOutOfBoundsException {
        if (!now.docket.hasPlea(plea)) {
            throw new IndexOutOfBoundsException("there is no such plea");
        }
        return now.docket.lastHour(plea);
    }

    public int hear(int plea) throws IndexOutOfBoundsException, UnsupportedOperationException {
        int fault = checkHearing(plea);
        if (fault == BAD_INDEX) {
            throw new IndexOutOfBoundsException("there is no such plea");
        }
        if (fault == REFUSED) {
            throw new UnsupportedOperationException("the hearing is refused");
        }
        history.remember(now);
        return holdHearing(plea);
    }

    public int mostHearings() {
        return plan.mostByQueue(now.docket);
    }

    public int mostHearingsByChains() {
        return plan.mostByChains(now.docket);
    }

    public int pass(int hours) throws IllegalArgumentException {
        if (checkPassing(hours) != FINE) {
            throw new IllegalArgumentException("the number is out of range");
        }
        history.remember(now);
        return passHours(hours);
    }

    public int hour() {
        return now.docket.hour;
    }

    // ---- accounts

    public int coins() {
        return now.ledger.coins;
    }

    public int coinsByAccounts() {
        Ledger ledger = now.ledger;
        return FIRST_COINS + ledger.fines - ledger.spentOnThrows - ledger.spentOnBoomerangs;
    }

    public int refusalReason() throws NoSuchElementException {
        if (keptReason == 0) {
            throw new NoSuchElementException("nothing was refused");
        }
        return keptReason;
    }

    public int refusalDetail() throws NoSuchElementException {
        if (keptReason == 0) {
            throw new NoSuchElementException("nothing was refused");
        }
        return keptDetail;
    }

    public float caughtShare() throws ArithmeticException {
        if (now.ledger.thrown == 0) {
            throw new ArithmeticException("there were no throws");
        }
        return now.ledger.shareOfCaught();
    }

    public int caughtShareBits() throws ArithmeticException {
        if (now.ledger.thrown == 0) {
            throw new ArithmeticException("there were no throws");
        }
        return bitsOfShare(now.ledger.shareOfCaught());
    }

    public double meanSteps() throws ArithmeticException {
        if (now.ledger.thrown == 0) {
            throw new ArithmeticException("there were no throws");
        }
        return (double) now.ledger.steps / (double) now.ledger.thrown;
    }

    public long signature() {
        long signature = now.yard.trees * 31;
        for (int party = 0; party < now.yard.parties; party++) {
            signature = (signature ^ (1L << now.yard.partyCells[party])) * 31;
        }
        return signature;
    }

    // ---- commands

    public int append(char character) throws IllegalArgumentException, IllegalStateException {
        if (character < 32 || character > 126) {
            throw new IllegalArgumentException("the code of the character is not from 32 to 126");
        }
        if (text.length >= TEXT_LIMIT) {
            throw new IllegalStateException("the command text has 60 characters");
        }
        text.put(character);
        return text.length;
    }

    public int run() throws IllegalArgumentException, IllegalStateException {
        boolean isCommandText = text.readCommands();
        text.length = 0;
        if (!isCommandText) {
            keptErrorPosition = text.at;
            throw new IllegalArgumentException("the text is not a command text");
        }
        beforeRun.copyFrom(now);
        int failed = carryOutCommands();
        if (failed != NONE) {
            now.copyFrom(beforeRun);
            keptFailedCommand = failed;
            throw new IllegalStateException("a command fails");
        }
        history.remember(beforeRun);
        return text.count;
    }

    public int errorPosition() throws NoSuchElementException {
        if (keptErrorPosition == NONE) {
            throw new NoSuchElementException("no error position was set");
        }
        return keptErrorPosition;
    }

    public int failedCommand() throws NoSuchElementException {
        if (keptFailedCommand == NONE) {
            throw new NoSuchElementException("no command has failed");
        }
        return keptFailedCommand;
    }

    // ---- line, undo, snapshot

    public int describeRow(int y) throws IndexOutOfBoundsException {
        if (!isCell(0, y)) {
            throw new IndexOutOfBoundsException("there is no such row");
        }
        line.length = 0;
        for (int x = 0; x < 8; x++) {
            line.put(now.yard.signOf(cellAt(x, y)));
        }
        return line.length;
    }

    public int describePlea(int plea) throws IndexOutOfBoundsException {
        Docket docket = now.docket;
        if (!docket.hasPlea(plea)) {
            throw new IndexOutOfBoundsException("there is no such plea");
        }
        line.length = 0;
        line.put('p');
        line.putNumber(docket.parties[plea]);
        line.put(':');
        line.putNumber(docket.firstHours[plea]);
        line.put('-');
        line.putNumber(docket.lastHour(plea));
        if (docket.canBeHeard(plea, docket.hour)) {
            line.put('*');
        }
        return line.length;
    }

    public char lineAt(int index) throws IndexOutOfBoundsException {
        if (index < 0 || index >= line.length) {
            throw new IndexOutOfBoundsException("there is no such index");
        }
        return line.characters[index];
    }

    public boolean isConsistent() {
        return turnedTrees() == turnedTreesByCells()
                && isReachConsistent(0)
                && isReachConsistent(21)
                && isReachConsistent(42)
                && isReachConsistent(63)
                && isReachConsistent(now.yard.benchCell)
                && areServingThrowsConsistent()
                && mostHearings() == mostHearingsByChains()
                && coins() == coinsByAccounts();
    }

    public int undo() throws IllegalStateException {
        if (history.count == 0) {
            throw new IllegalStateException("there is no change to undo");
        }
        history.takeBack(now);
        return history.count;
    }

    public int save() {
        saved.copyFrom(now);
        isSaved = true;
        return now.yard.parties;
    }

    public int restore() throws IllegalStateException {
        if (!isSaved) {
            throw new IllegalStateException("there is no snapshot");
        }
        now.copyFrom(saved);
        history.count = 0;
        return now.yard.parties;
    }

    // ---- numbers of cells, directions and throws

    private static boolean isCell(int x, int y) {
        return x >= 0 && x < 8 && y >= 0 && y < 8;
    }

    private static int cellAt(int x, int y) {
        return 8 * y + x;
    }

    private static int neighbour(int cell, int direction) {
        int x = (cell + STEP_X[direction & 7]) & 7;
        int y = ((cell >> 3) + STEP_Y[direction & 7]) & 7;
        return 8 * y + x;
    }

    private static boolean isThrow(int number) {
        return number >= 0 && number < THROWS;
    }

    private static int armOf(int number) {
        return 1 + (number / 8) % 4;
    }

    // ---- what can go wrong with a change; a refusal is kept

    private int refuse(int reason, int detail) {
        keptReason = reason;
        keptDetail = detail;
        return REFUSED;
    }

    private int refuseTreeIn(int cell) {
        return now.yard.hasTree(cell) ? refuse(TREE_IN_CELL, cell) : FINE;
    }

    private int refusePartyIn(int cell) {
        int party = now.yard.partyAt(cell);
        return party != NONE ? refuse(PARTY_IN_CELL, party) : FINE;
    }

    private int refuseBenchIn(int cell) {
        return now.yard.benchCell == cell ? refuse(BENCH_IN_CELL, cell) : FINE;
    }

    private int refuseAnythingIn(int cell) {
        int fault = refuseTreeIn(cell);
        if (fault == FINE) {
            fault = refusePartyIn(cell);
        }
        return fault == FINE ? refuseBenchIn(cell) : fault;
    }

    private int checkTree(int x, int y, boolean isTree) {
        if (!isCell(x, y)) {
            return BAD_INDEX;
        }
        if (!isTree) {
            return FINE;
        }
        int fault = refusePartyIn(cellAt(x, y));
        return fault == FINE ? refuseBenchIn(cellAt(x, y)) : fault;
    }

    private int checkBench(int x, int y) {
        if (!isCell(x, y)) {
            return BAD_INDEX;
        }
        int fault = refuseTreeIn(cellAt(x, y));
        return fault == FINE ? refusePartyIn(cellAt(x, y)) : fault;
    }

    private int checkWind(int direction, int strength) {
        boolean isDirection = direction >= 0 && direction < 8;
        boolean isStrength = strength >= 0 && strength <= STRONGEST_WIND;
        return isDirection && isStrength ? FINE : BAD_ARGUMENT;
    }

    private int checkNewParty(int x, int y) {
        if (!isCell(x, y)) {
            return BAD_INDEX;
        }
        if (now.yard.parties >= MOST_PARTIES) {
            return BAD_STATE;
        }
        return refuseAnythingIn(cellAt(x, y));
    }

    private int checkMove(int party, int x, int y) {
        if (!now.yard.hasParty(party) || !isCell(x, y)) {
            return BAD_INDEX;
        }
        boolean stays = now.yard.partyCells[party] == cellAt(x, y);
        return stays ? FINE : refuseAnythingIn(cellAt(x, y));
    }

    private int checkSummons(int party, int number) {
        if (!now.yard.hasParty(party)) {
            return BAD_INDEX;
        }
        if (!isThrow(number)) {
            return BAD_ARGUMENT;
        }
        if (now.ledger.boomerangs <= 0) {
            return refuse(NO_BOOMERANG, now.ledger.coins);
        }
        int plea = now.docket.pleaOf(party);
        return plea != NONE ? refuse(PLEA_WAITS, plea) : FINE;
    }

    private int checkPurchase(int count) {
        if (count < 1 || count > MOST_BOUGHT) {
            return BAD_ARGUMENT;
        }
        return now.ledger.coins < BOOMERANG_PRICE * count ? BAD_STATE : FINE;
    }

    private int checkHearing(int plea) {
        Docket docket = now.docket;
        if (!docket.hasPlea(plea)) {
            return BAD_INDEX;
        }
        if (!docket.sitsAt(docket.hour)) {
            return refuse(NOT_SITTING, docket.hour % DAY);
        }
        int early = docket.firstHours[plea] - docket.hour;
        return early > 0 ? refuse(TOO_EARLY, early) : FINE;
    }

    private int checkPassing(int hours) {
        return hours >= 1 && hours <= MOST_PASSED ? FINE : BAD_ARGUMENT;
    }

    // ---- the changes themselves, for arguments that were checked

    private int plant(int x, int y, boolean isTree) {
        long bit = 1L << cellAt(x, y);
        now.yard.trees = isTree ? now.yard.trees | bit : now.yard.trees & ~bit;
        return Long.bitCount(now.yard.trees);
    }

    private int placeBench(int x, int y) {
        int before = now.yard.benchCell;
        now.yard.benchCell = cellAt(x, y);
        return before;
    }

    private int turnWind(int direction, int strength) {
        int before = 10 * now.yard.windDirection + now.yard.windStrength;
        now.yard.windDirection = direction;
        now.yard.windStrength = strength;
        return before;
    }

    private int seatParty(int x, int y) {
        int party = now.yard.parties;
        if (party < MOST_PARTIES) {
            now.yard.partyCells[party] = cellAt(x, y);
            now.yard.parties++;
        }
        return party;
    }

    private int shiftParty(int party, int x, int y) {
        int before = now.yard.partyCells[party];
        now.yard.partyCells[party] = cellAt(x, y);
        return before;
    }

    private boolean throwAt(int party, int number) {
        flight.fly(now.yard, number);
        int steps = flight.stepsTo(now.yard.partyCells[party]);
        boolean isServed = steps != NONE;
        boolean isCaught = !isServed && flight.end == 'c';
        now.ledger.enterThrow(armOf(number), isServed ? steps : flight.length, isCaught);
        if (isServed) {
            now.ledger.served[party]++;
            now.docket.enterPlea(party, now.docket.hour + steps / 4, armOf(number));
        }
        return isServed;
    }

    private int purchase(int count) {
        Ledger ledger = now.ledger;
        ledger.boomerangs += count;
        ledger.coins -= BOOMERANG_PRICE * count;
        ledger.spentOnBoomerangs += BOOMERANG_PRICE * count;
        return ledger.boomerangs;
    }

    private int holdHearing(int plea) {
        int fine = now.docket.fineOf(plea);
        now.ledger.coins += fine;
        now.ledger.fines += fine;
        now.docket.strike(plea);
        now.docket.passHour();
        return fine;
    }

    private int passHours(int hours) {
        int expired = 0;
        for (int i = 0; i < hours; i++) {
            expired += now.docket.passHour();
        }
        return expired;
    }

    // ---- larger searches

    private long connectedByQueue(int start) {
        Yard yard = now.yard;
        if (yard.hasTree(start)) {
            return 0;
        }
        long seen = 1L << start;
        cellQueue[0] = start;
        int waiting = 1;
        for (int i = 0; i < waiting && i < CELLS; i++) {
            for (int direction = 0; direction < 8; direction += 2) {
                int cell = neighbour(cellQueue[i], direction);
                boolean isNew = ((seen >>> cell) & 1L) == 0 && !yard.hasTree(cell);
                if (isNew && waiting < CELLS) {
                    seen |= 1L << cell;
                    cellQueue[waiting] = cell;
                    waiting++;
                }
            }
        }
        return seen;
    }

    private int quickestShortestThrow(int cell) {
        int best = NONE;
        int bestSteps = 0;
        for (int number = 0; number < THROWS; number++) {
            flight.fly(now.yard, number);
            int steps = flight.stepsTo(cell);
            if (steps == NONE) {
                continue;
            }
            boolean isShorter = best == NONE || armOf(number) < armOf(best);
            boolean isQuicker = best != NONE && armOf(number) == armOf(best) && steps < bestSteps;
            if (isShorter || isQuicker) {
                best = number;
                bestSteps = steps;
            }
        }
        return best;
    }

    private boolean isReachConsistent(int cell) {
        int x = cell & 7;
        int y = (cell >> 3) & 7;
        return reach(x, y) == reachByQueue(x, y);
    }

    private boolean areServingThrowsConsistent() {
        for (int party = 0; party < now.yard.parties; party++) {
            if (servingThrows(party) != servingThrowsBySets(party)) {
                return false;
            }
        }
        return true;
    }

    /** Written out because the language rules leave no Float.floatToIntBits; a share is 0 to 1. */
    private static int bitsOfShare(float share) {
        if (share <= 0) {
            return 0;
        }
        int exponent = 127;
        float mantissa = share;
        while (mantissa < 1 && exponent > 1) {
            mantissa *= 2;
            exponent--;
        }
        return (exponent << 23) | (int) ((mantissa - 1) * (1 << 23));
    }

    // ---- running commands

    /** Carries out the commands that were read, and tells which one failed, or NONE. */
    private int carryOutCommands() {
        for (int i = 0; i < text.count; i++) {
            Command command = text.commandAt(i);
            int first = text.operandAt(i, 0);
            int second = text.operandAt(i, 1);
            int third = text.operandAt(i, 2);
            if (command == null || checkCommand(command, first, second, third) != FINE) {
                return i;
            }
            carryOut(command, first, second, third);
        }
        return NONE;
    }

    private int checkCommand(Command command, int first, int second, int third) {
        switch (command) {
            case TREE:
                return checkTree(first, second, true);
            case FELL:
                return checkTree(first, second, false);
            case BENCH:
                return checkBench(first, second);
            case PARTY:
                return checkNewParty(first, second);
            case MOVE:
                return checkMove(first, second, third);
            case WIND:
                return checkWind(first, second);
            case THROW:
                return checkSummons(first, second);
            case BUY:
                return checkPurchase(first);
            case HEAR:
                return checkHearing(first);
            case PASS:
                return checkPassing(first);
            default:
                return BAD_ARGUMENT;
        }
    }

    private void carryOut(Command command, int first, int second, int third) {
        switch (command) {
            case TREE:
                plant(first, second, true);
                break;
            case FELL:
                plant(first, second, false);
                break;
            case BENCH:
                placeBench(first, second);
                break;
            case PARTY:
                seatParty(first, second);
                break;
            case MOVE:
                shiftParty(first, second, third);
                break;
            case WIND:
                turnWind(first, second);
                break;
            case THROW:
                throwAt(first, second);
                break;
            case BUY:
                purchase(first);
                break;
            case HEAR:
                holdHearing(first);
                break;
            case PASS:
                passHours(first);
                break;
            default:
                break;
        }
    }

    // ---- classes

    /** The trees, the bench, the wind and the cells of the parties. */
    private static final class Yard {
        long trees;
        int benchCell;
        int windDirection;
        int windStrength;
        int parties;
        final int[] partyCells = new int[MOST_PARTIES];

        void copyFrom(Yard other) {
            trees = other.trees;
            benchCell = other.benchCell;
            windDirection = other.windDirection;
            windStrength = other.windStrength;
            parties = other.parties;
            System.arraycopy(other.partyCells, 0, partyCells, 0, MOST_PARTIES);
        }

        boolean hasTree(int cell) {
            return ((trees >>> cell) & 1L) != 0;
        }

        boolean hasParty(int party) {
            return party >= 0 && party < parties;
        }

        int partyAt(int cell) {
            for (int party = 0; party < parties; party++) {
                if (partyCells[party] == cell) {
                    return party;
                }
            }
            return NONE;
        }

        char signOf(int cell) {
            int party = partyAt(cell);
            if (party != NONE) {
                return (char) ('0' + party);
            }
            return hasTree(cell) ? 'T' : cell == benchCell ? 'B' : '.';
        }

        /** A quarter turn is a mirroring at the diagonal, then one of the columns. */
        long turnedByExchange() {
            long set = exchange(trees, 0x00AA00AA00AA00AAL, 7);
            set = exchange(set, 0x0000CCCC0000CCCCL, 14);
            set = exchange(set, 0x00000000F0F0F0F0L, 28);
            set = exchange(set, 0x5555555555555555L, 1);
            set = exchange(set, 0x3333333333333333L, 2);
            return exchange(set, 0x0F0F0F0F0F0F0F0FL, 4);
        }

        private static long exchange(long set, long group, int distance) {
            long differing = (set ^ (set >>> distance)) & group;
            return set ^ differing ^ (differing << distance);
        }

        long turnedCellByCell() {
            long set = 0;
            for (int y = 0; y < 8; y++) {
                for (int x = 0; x < 8; x++) {
                    if (hasTree(cellAt(x, y))) {
                        set |= 1L << cellAt(7 - y, x);
                    }
                }
            }
            return set;
        }

        long connectedBySets(int cell) {
            long set = (1L << cell) & ~trees;
            for (int i = 0; i < CELLS; i++) {
                long larger = withNeighbours(set) & ~trees;
                if (larger == set) {
                    break;
                }
                set = larger;
            }
            return set;
        }

        private static long withNeighbours(long set) {
            long nextRow = (set << 8) | (set >>> 56);
            long previousRow = (set >>> 8) | (set << 56);
            long nextColumn = ((set & ~LAST_COLUMN) << 1) | ((set & LAST_COLUMN) >>> 7);
            long previousColumn = ((set & ~FIRST_COLUMN) >>> 1) | ((set & FIRST_COLUMN) << 7);
            return set | nextRow | previousRow | nextColumn | previousColumn;
        }
    }

    /** The pleas that wait, in the order in which they came, and the hours. */
    private static final class Docket {
        int hour;
        int sitting = FIRST_SITTING;
        int count;
        final int[] parties = new int[MOST_PARTIES];
        final int[] firstHours = new int[MOST_PARTIES];
        final int[] arms = new int[MOST_PARTIES];

        void copyFrom(Docket other) {
            hour = other.hour;
            sitting = other.sitting;
            count = other.count;
            System.arraycopy(other.parties, 0, parties, 0, MOST_PARTIES);
            System.arraycopy(other.firstHours, 0, firstHours, 0, MOST_PARTIES);
            System.arraycopy(other.arms, 0, arms, 0, MOST_PARTIES);
        }

        boolean sitsAt(int anHour) {
            return ((sitting >>> (anHour % DAY)) & 1) != 0;
        }

        boolean hasPlea(int plea) {
            return plea >= 0 && plea < count;
        }

        int pleaOf(int party) {
            for (int plea = 0; plea < count; plea++) {
                if (parties[plea] == party) {
                    return plea;
                }
            }
            return NONE;
        }

        int lastHour(int plea) {
            return firstHours[plea] + PLEA_HOURS;
        }

        boolean canBeHeard(int plea, int anHour) {
            return firstHours[plea] <= anHour && anHour <= lastHour(plea) && sitsAt(anHour);
        }

        int fineOf(int plea) {
            return 3 * arms[plea] + (hour - firstHours[plea]);
        }

        void enterPlea(int party, int firstHour, int arm) {
            if (count < MOST_PARTIES) {
                parties[count] = party;
                firstHours[count] = firstHour;
                arms[count] = arm;
                count++;
            }
        }

        void strike(int plea) {
            for (int i = plea + 1; i < count; i++) {
                movePlea(i, i - 1);
            }
            count--;
        }

        private void movePlea(int from, int to) {
            parties[to] = parties[from];
            firstHours[to] = firstHours[from];
            arms[to] = arms[from];
        }

        /** Lets an hour pass, and tells how many pleas expire. */
        int passHour() {
            hour++;
            int kept = 0;
            for (int plea = 0; plea < count; plea++) {
                if (lastHour(plea) >= hour) {
                    movePlea(plea, kept);
                    kept++;
                }
            }
            int expired = count - kept;
            count = kept;
            return expired;
        }
    }

    /** Boomerangs, coins, and what was counted of throws. */
    private static final class Ledger {
        int boomerangs = FIRST_BOOMERANGS;
        int coins = FIRST_COINS;
        int fines;
        int spentOnThrows;
        int spentOnBoomerangs;
        int thrown;
        int caught;
        int steps;
        final int[] served = new int[MOST_PARTIES];

        void copyFrom(Ledger other) {
            boomerangs = other.boomerangs;
            coins = other.coins;
            fines = other.fines;
            spentOnThrows = other.spentOnThrows;
            spentOnBoomerangs = other.spentOnBoomerangs;
            thrown = other.thrown;
            caught = other.caught;
            steps = other.steps;
            System.arraycopy(other.served, 0, served, 0, MOST_PARTIES);
        }

        void enterThrow(int arm, int flown, boolean isCaught) {
            coins -= arm;
            spentOnThrows += arm;
            thrown++;
            steps += flown;
            if (isCaught) {
                caught++;
            } else {
                boomerangs--;
            }
        }

        /** Only for a court that has thrown. */
        float shareOfCaught() {
            return (float) caught / (float) thrown;
        }
    }

    /** Everything that changes can change, and so what is undone and saved. */
    private static final class State {
        final Yard yard = new Yard();
        final Docket docket = new Docket();
        final Ledger ledger = new Ledger();

        void copyFrom(State other) {
            yard.copyFrom(other.yard);
            docket.copyFrom(other.docket);
            ledger.copyFrom(other.ledger);
        }
    }

    /** The states before the latest changes, in a ring that overwrites the oldest. */
    private static final class History {
        final State[] states = new State[MOST_UNDONE];
        int next;
        int count;

        History() {
            for (int i = 0; i < MOST_UNDONE; i++) {
                states[i] = new State();
            }
        }

        void remember(State state) {
            states[next].copyFrom(state);
            next = (next + 1) % MOST_UNDONE;
            count = Math.min(count + 1, MOST_UNDONE);
        }

        void takeBack(State state) {
            next = (next + MOST_UNDONE - 1) % MOST_UNDONE;
            state.copyFrom(states[next]);
            count--;
        }
    }

    /** The flight of one throw, used again for each so that throws make no objects. */
    private static final class Flight {
        final int[] cells = new int[LONGEST_FLIGHT + 1];
        int length;
        char end;

        void fly(Yard yard, int number) {
            cells[0] = yard.benchCell;
            length = 0;
            int direction = number % 8;
            int turn = number < 32 ? 1 : 7;
            boolean flies = true;
            for (int part = 0; part < PARTS && flies; part++) {
                for (int i = 0; i < armOf(number) && flies; i++) {
                    flies = step(yard, direction);
                }
                if (flies && part < yard.windStrength) {
                    flies = step(yard, yard.windDirection);
                }
                direction = (direction + turn) % 8;
            }
            end = !flies ? 't' : cells[length] == yard.benchCell ? 'c' : 'g';
        }

        private boolean step(Yard yard, int direction) {
            int cell = neighbour(cells[length], direction);
            if (yard.hasTree(cell) || length >= LONGEST_FLIGHT) {
                return false;
            }
            length++;
            cells[length] = cell;
            return true;
        }

        /** The steps until the cell is entered for the first time, or NONE. */
        int stepsTo(int cell) {
            for (int i = 1; i <= length; i++) {
                if (cells[i] == cell) {
                    return i;
                }
            }
            return NONE;
        }

        long enteredCells() {
            long set = 0;
            for (int i = 1; i <= length; i++) {
                set |= 1L << cells[i];
            }
            return set;
        }
    }

    /** How many pleas can be heard, with its rows kept so that asking makes no objects. */
    private static final class HearingPlan {
        final int[] queue = new int[MOST_PARTIES];
        final int[] hourOfPlea = new int[MOST_PARTIES];
        final int[] pleaInHour = new int[HOURS_AHEAD];
        final int[] foundFrom = new int[HOURS_AHEAD];

        /** Who came first in the queue expires first, for all pleas can be heard equally long. */
        int mostByQueue(Docket docket) {
            queueByFirstHour(docket);
            int heard = 0;
            int front = 0;
            for (int ahead = 0; ahead < HOURS_AHEAD; ahead++) {
                int hour = docket.hour + ahead;
                while (front < docket.count && docket.lastHour(queue[front]) < hour) {
                    front++;
                }
                if (front < docket.count && docket.canBeHeard(queue[front], hour)) {
                    front++;
                    heard++;
                }
            }
            return heard;
        }

        private void queueByFirstHour(Docket docket) {
            for (int plea = 0; plea < docket.count; plea++) {
                int place = plea;
                while (place > 0 && docket.firstHours[queue[place - 1]] > docket.firstHours[plea]) {
                    queue[place] = queue[place - 1];
                    place--;
                }
                queue[place] = plea;
            }
        }

        int mostByChains(Docket docket) {
            Arrays.fill(hourOfPlea, NONE);
            Arrays.fill(pleaInHour, NONE);
            int heard = 0;
            for (int plea = 0; plea < docket.count; plea++) {
                if (findHour(docket, plea)) {
                    heard++;
                }
            }
            return heard;
        }

        /** Gives the plea an hour, also one whose plea can go along a chain to another. */
        private boolean findHour(Docket docket, int plea) {
            Arrays.fill(foundFrom, NONE);
            queue[0] = plea;
            int waiting = 1;
            for (int i = 0; i < waiting && i < MOST_PARTIES; i++) {
                for (int ahead = 0; ahead < HOURS_AHEAD; ahead++) {
                    if (foundFrom[ahead] != NONE || !docket.canBeHeard(queue[i], docket.hour + ahead)) {
                        continue;
                    }
                    foundFrom[ahead] = queue[i];
                    if (pleaInHour[ahead] == NONE) {
                        giveHoursAlongChain(ahead);
                        return true;
                    }
                    if (waiting < MOST_PARTIES) {
                        queue[waiting] = pleaInHour[ahead];
                        waiting++;
                    }
                }
            }
            return false;
        }

        private void giveHoursAlongChain(int freeHour) {
            int hour = freeHour;
            for (int i = 0; i < MOST_PARTIES && hour != NONE; i++) {
                int plea = foundFrom[hour];
                if (plea == NONE) {
                    return;
                }
                int before = hourOfPlea[plea];
                pleaInHour[hour] = plea;
                hourOfPlea[plea] = hour;
                hour = before;
            }
        }
    }

    /** The line that the describing calls write. */
    private static final class Line {
        final char[] characters = new char[32];
        int length;

        void put(char character) {
            if (length < characters.length) {
                characters[length] = character;
                length++;
            }
        }

        void putNumber(int number) {
            boolean isBegun = false;
            for (int power = 1_000_000_000; power > 0; power /= 10) {
                int digit = number / power % 10;
                isBegun = isBegun || digit != 0 || power == 1;
                if (isBegun) {
                    put((char) ('0' + digit));
                }
            }
        }
    }

    /** The commands: d is a digit, n a number, any other character of a form stands for itself. */
    private enum Command {
        TREE("tree ", "dd"),
        FELL("fell ", "dd"),
        BENCH("bench ", "dd"),
        PARTY("party ", "dd"),
        MOVE("move ", "d@dd"),
        WIND("wind ", "dd"),
        THROW("throw ", "d#n"),
        BUY("buy ", "n"),
        HEAR("hear ", "d"),
        PASS("pass ", "n");

        private static final Command[] ALL = values();

        final String keyword;
        final String form;

        Command(String keyword, String form) {
            this.keyword = keyword;
            this.form = form;
        }
    }

    /** The command text, and the commands that were read from it. */
    private static final class CommandText {
        final char[] characters = new char[TEXT_LIMIT];
        int length;
        /** Where the reading stands; if it fails, the error position. */
        int at;
        int count;
        final Command[] commands = new Command[COMMANDS_READ];
        final int[] operands = new int[3 * COMMANDS_READ];

        void put(char character) {
            if (length < TEXT_LIMIT) {
                characters[length] = character;
                length++;
            }
        }

        Command commandAt(int index) {
            return index >= 0 && index < count ? commands[index] : null;
        }

        int operandAt(int index, int place) {
            return index >= 0 && index < count && place >= 0 && place < 3 ? operands[3 * index + place] : 0;
        }

        boolean readCommands() {
            at = 0;
            count = 0;
            for (int i = 0; i < COMMANDS_READ; i++) {
                if (!readCommand(i)) {
                    return false;
                }
                count = i + 1;
                if (at == length) {
                    return true;
                }
                if (!readSign(';')) {
                    return false;
                }
            }
            return false;
        }

        private boolean readCommand(int index) {
            Command command = readKeyword();
            if (command == null) {
                return false;
            }
            commands[index] = command;
            return readOperands(command.form, 3 * index);
        }

        /** No keyword begins with another, so the longest match tells where the text goes wrong. */
        private Command readKeyword() {
            int longest = 0;
            for (Command command : Command.ALL) {
                int matched = matchedCharacters(command.keyword);
                if (matched == command.keyword.length()) {
                    at += matched;
                    return command;
                }
                longest = Math.max(longest, matched);
            }
            at += longest;
            return null;
        }

        private int matchedCharacters(String keyword) {
            int matched = 0;
            while (matched < keyword.length() && at + matched < length
                    && characters[at + matched] == keyword.charAt(matched)) {
                matched++;
            }
            return matched;
        }

        private boolean readOperands(String form, int firstPlace) {
            int place = firstPlace;
            for (int i = 0; i < form.length(); i++) {
                char sign = form.charAt(i);
                if (sign != 'd' && sign != 'n') {
                    if (!readSign(sign)) {
                        return false;
                    }
                    continue;
                }
                if (!isAtDigit() || place >= operands.length) {
                    return false;
                }
                operands[place] = readDigit();
                if (sign == 'n' && isAtDigit()) {
                    operands[place] = 10 * operands[place] + readDigit();
                }
                place++;
            }
            return true;
        }

        private boolean readSign(char sign) {
            if (at >= length || characters[at] != sign) {
                return false;
            }
            at++;
            return true;
        }

        private boolean isAtDigit() {
            return at < length && characters[at] >= '0' && characters[at] <= '9';
        }

        private int readDigit() {
            int digit = characters[at] - '0';
            at++;
            return digit;
        }
    }
}
