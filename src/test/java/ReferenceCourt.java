import java.util.ArrayDeque;
import java.util.ArrayList;
import java.util.Deque;
import java.util.List;
import java.util.TreeSet;
import java.util.regex.Matcher;
import java.util.regex.Pattern;

/**
 * The document once more, written slowly and in other ways than the program: sets of cells, lists,
 * regular expressions and copies. Answers are values, or texts such as throws.IllegalStateException.
 */
final class ReferenceCourt {
    private static final String COMMAND = "(?:(tree|fell|bench|party) (\\d)(\\d)|(move) (\\d)@(\\d)(\\d)"
            + "|(wind) (\\d)(\\d)|(throw) (\\d)#(\\d\\d?)|(buy|pass) (\\d\\d?)|(hear) (\\d))";
    private static final Pattern TEXT = Pattern.compile(COMMAND + "(?:;" + COMMAND + ")*");
    private static final Pattern WORDS = Pattern.compile("[a-z]+|\\d+");

    private static final String BAD_INDEX = "throws.IndexOutOfBoundsException";
    private static final String BAD_ARGUMENT = "throws.IllegalArgumentException";
    private static final String BAD_STATE = "throws.IllegalStateException";
    private static final String REFUSED = "throws.UnsupportedOperationException";
    private static final String NO_ELEMENT = "throws.NoSuchElementException";
    private static final String BAD_NUMBER = "throws.ArithmeticException";

    private record Plea(int party, int from, int arm) {
        int until() {
            return from + 24;
        }
    }

    private static final class State {
        TreeSet<Integer> trees = new TreeSet<>();
        int bench;
        int windDirection;
        int windStrength;
        List<Integer> cells = new ArrayList<>();
        List<Integer> served = new ArrayList<>();
        int boomerangs = 10;
        int coins = 50;
        int thrown;
        int caught;
        int steps;
        TreeSet<Integer> sitting = new TreeSet<>(List.of(8, 9, 10, 11, 12, 13, 14, 15, 16, 17));
        List<Plea> pleas = new ArrayList<>();
        int hour;

        State copy() {
            State s = new State();
            s.trees = new TreeSet<>(trees);
            s.bench = bench;
            s.windDirection = windDirection;
            s.windStrength = windStrength;
            s.cells = new ArrayList<>(cells);
            s.served = new ArrayList<>(served);
            s.boomerangs = boomerangs;
            s.coins = coins;
            s.thrown = thrown;
            s.caught = caught;
            s.steps = steps;
            s.sitting = new TreeSet<>(sitting);
            s.pleas = new ArrayList<>(pleas);
            s.hour = hour;
            return s;
        }
    }

    private State now = new State();
    private State saved;
    private final Deque<State> earlier = new ArrayDeque<>();
    private String text = "";
    private String line = "";
    private int[] refusal;
    private Integer errorPosition;
    private Integer failedCommand;

    /** Calls a method of the face by its name; booleans count 1 or 0 among the arguments. */
    Object call(String method, int... a) {
        switch (method) {
            case "setTree": case "setBench": case "setWind": case "addParty": case "moveParty":
            case "summon": case "buyBoomerangs": case "setSitting": case "hear": case "pass":
                return change(method, a);
            case "run":
                return run();
            case "append":
                return append((char) a[0]);
            case "undo":
                return undo();
            case "save":
                saved = now.copy();
                return now.cells.size();
            case "restore":
                return restore();
            default:
                return look(method, a);
        }
    }

    private Object change(String method, int... a) {
        State before = now.copy();
        Object answer = carryOut(method, a);
        if (isThrown(answer)) {
            now = before;
        } else {
            keep(before);
        }
        return answer;
    }

    private void keep(State before) {
        earlier.addLast(before);
        if (earlier.size() > 8) {
            earlier.removeFirst();
        }
    }

    private static boolean isThrown(Object answer) {
        return answer instanceof String;
    }

    private String refuse(int reason, int detail) {
        refusal = new int[] {reason, detail};
        return REFUSED;
    }

    /** What forbids something in a cell, of the reasons that are named; null if nothing does. */
    private String forbids(int cell, String reasons) {
        if (reasons.contains("1") && now.trees.contains(cell)) {
            return refuse(1, cell);
        }
        if (reasons.contains("2") && now.cells.contains(cell)) {
            return refuse(2, now.cells.indexOf(cell));
        }
        return reasons.contains("3") && now.bench == cell ? refuse(3, cell) : null;
    }

    private static boolean out(int number, int from, int to) {
        return number < from || number > to;
    }

    private static boolean outside(int x, int y) {
        return out(x, 0, 7) || out(y, 0, 7);
    }

    private boolean noParty(int party) {
        return out(party, 0, now.cells.size() - 1);
    }

    private boolean noPlea(int plea) {
        return out(plea, 0, now.pleas.size() - 1);
    }

    private Object carryOut(String method, int... a) {
        switch (method) {
            case "setTree":
                return setTree(a[0], a[1], a[2] != 0);
            case "setBench":
                return setBench(a[0], a[1]);
            case "setWind":
                return setWind(a[0], a[1]);
            case "addParty":
                return addParty(a[0], a[1]);
            case "moveParty":
                return moveParty(a[0], a[1], a[2]);
            case "summon":
                return summon(a[0], a[1]);
            case "buyBoomerangs":
                return buy(a[0]);
            case "setSitting":
                return setSitting(a[0], a[1] != 0);
            case "hear":
                return hear(a[0]);
            default:
                return pass(a[0]);
        }
    }

    private Object setTree(int x, int y, boolean isTree) {
        if (outside(x, y)) {
            return BAD_INDEX;
        }
        int cell = 8 * y + x;
        if (!isTree) {
            now.trees.remove(cell);
            return now.trees.size();
        }
        String refused = forbids(cell, "23");
        if (refused != null) {
            return refused;
        }
        now.trees.add(cell);
        return now.trees.size();
    }

    private Object setBench(int x, int y) {
        if (outside(x, y)) {
            return BAD_INDEX;
        }
        String refused = forbids(8 * y + x, "12");
        if (refused != null) {
            return refused;
        }
        int before = now.bench;
        now.bench = 8 * y + x;
        return before;
    }

    private Object setWind(int direction, int strength) {
        if (out(direction, 0, 7) || out(strength, 0, 3)) {
            return BAD_ARGUMENT;
        }
        int before = 10 * now.windDirection + now.windStrength;
        now.windDirection = direction;
        now.windStrength = strength;
        return before;
    }

    private Object addParty(int x, int y) {
        if (outside(x, y)) {
            return BAD_INDEX;
        }
        if (now.cells.size() == 8) {
            return BAD_STATE;
        }
        String refused = forbids(8 * y + x, "123");
        if (refused != null) {
            return refused;
        }
        now.cells.add(8 * y + x);
        now.served.add(0);
        return now.cells.size() - 1;
    }

    private Object moveParty(int party, int x, int y) {
        if (noParty(party) || outside(x, y)) {
            return BAD_INDEX;
        }
        int before = now.cells.get(party);
        if (before == 8 * y + x) {
            return before;
        }
        String refused = forbids(8 * y + x, "123");
        if (refused != null) {
            return refused;
        }
        now.cells.set(party, 8 * y + x);
        return before;
    }

    /** The cells of a flight from the bench on, and -1 at the end if a tree stops it. */
    private List<Integer> flight(int number) {
        StringBuilder moves = new StringBuilder();
        int direction = number % 8;
        for (int part = 0; part < 8; part++) {
            moves.append(String.valueOf(direction).repeat(1 + number / 8 % 4));
            if (part < now.windStrength) {
                moves.append(now.windDirection);
            }
            direction = Math.floorMod(number < 32 ? direction + 1 : direction - 1, 8);
        }
        List<Integer> cells = new ArrayList<>(List.of(now.bench));
        int x = now.bench % 8;
        int y = now.bench / 8;
        for (char move : moves.toString().toCharArray()) {
            x = Math.floorMod(x + ("017".indexOf(move) >= 0 ? 1 : "345".indexOf(move) >= 0 ? -1 : 0), 8);
            y = Math.floorMod(y + ("123".indexOf(move) >= 0 ? 1 : "567".indexOf(move) >= 0 ? -1 : 0), 8);
            if (now.trees.contains(8 * y + x)) {
                cells.add(-1);
                return cells;
            }
            cells.add(8 * y + x);
        }
        return cells;
    }

    private int lengthOf(List<Integer> flight) {
        return flight.size() - (flight.contains(-1) ? 2 : 1);
    }

    private char endOf(List<Integer> flight) {
        int last = flight.get(flight.size() - 1);
        return last == -1 ? 't' : last == now.bench ? 'c' : 'g';
    }

    /** The steps until a cell is entered, or 0. */
    private int stepsTo(List<Integer> flight, int cell) {
        return flight.subList(1, flight.size()).indexOf(cell) + 1;
    }

    private Object summon(int party, int number) {
        if (noParty(party)) {
            return BAD_INDEX;
        }
        if (out(number, 0, 63)) {
            return BAD_ARGUMENT;
        }
        if (now.boomerangs == 0) {
            return refuse(4, now.coins);
        }
        for (int i = 0; i < now.pleas.size(); i++) {
            if (now.pleas.get(i).party() == party) {
                return refuse(5, i);
            }
        }
        List<Integer> flight = flight(number);
        int arm = 1 + number / 8 % 4;
        int steps = stepsTo(flight, now.cells.get(party));
        now.coins -= arm;
        now.thrown++;
        now.boomerangs--;
        if (steps > 0) {
            now.steps += steps;
            now.served.set(party, now.served.get(party) + 1);
            now.pleas.add(new Plea(party, now.hour + steps / 4, arm));
            return true;
        }
        now.steps += lengthOf(flight);
        if (endOf(flight) == 'c') {
            now.boomerangs++;
            now.caught++;
        }
        return false;
    }

    private Object buy(int count) {
        if (out(count, 1, 20)) {
            return BAD_ARGUMENT;
        }
        if (now.coins < 2 * count) {
            return BAD_STATE;
        }
        now.coins -= 2 * count;
        now.boomerangs += count;
        return now.boomerangs;
    }

    private Object setSitting(int hourOfDay, boolean sits) {
        if (out(hourOfDay, 0, 23)) {
            return BAD_INDEX;
        }
        return sits ? !now.sitting.add(hourOfDay) : now.sitting.remove(hourOfDay);
    }

    private Object hear(int plea) {
        if (noPlea(plea)) {
            return BAD_INDEX;
        }
        if (!now.sitting.contains(now.hour % 24)) {
            return refuse(6, now.hour % 24);
        }
        Plea heard = now.pleas.get(plea);
        if (heard.from() > now.hour) {
            return refuse(7, heard.from() - now.hour);
        }
        int fine = 3 * heard.arm() + now.hour - heard.from();
        now.coins += fine;
        now.pleas.remove(plea);
        pass(1);
        return fine;
    }

    private Object pass(int hours) {
        if (out(hours, 1, 48)) {
            return BAD_ARGUMENT;
        }
        int waiting = now.pleas.size();
        now.hour += hours;
        now.pleas.removeIf(plea -> plea.until() < now.hour);
        return waiting - now.pleas.size();
    }

    private Object append(char character) {
        if (out(character, 32, 126)) {
            return BAD_ARGUMENT;
        }
        if (text.length() == 60) {
            return BAD_STATE;
        }
        text += character;
        return text.length();
    }

    private static int errorPositionOf(String text) {
        for (int length = 1; length <= text.length(); length++) {
            Matcher matcher = TEXT.matcher(text.substring(0, length));
            if (!matcher.matches() && !matcher.hitEnd()) {
                return length - 1;
            }
        }
        return text.length();
    }

    private Object run() {
        String whole = text;
        text = "";
        if (!TEXT.matcher(whole).matches()) {
            errorPosition = errorPositionOf(whole);
            return BAD_ARGUMENT;
        }
        State before = now.copy();
        String[] commands = whole.split(";");
        for (int i = 0; i < commands.length; i++) {
            if (isThrown(carryOutText(commands[i]))) {
                now = before;
                failedCommand = i;
                return BAD_STATE;
            }
        }
        keep(before);
        return commands.length;
    }

    private Object carryOutText(String command) {
        Matcher matcher = WORDS.matcher(command);
        matcher.find();
        String keyword = matcher.group();
        List<String> numbers = new ArrayList<>();
        while (matcher.find()) {
            numbers.add(matcher.group());
        }
        String last = numbers.get(numbers.size() - 1);
        int[] pair = {last.charAt(0) - '0', last.charAt(last.length() - 1) - '0'};
        int first = Integer.parseInt(numbers.get(0));
        int number = Integer.parseInt(last);
        switch (keyword) {
            case "tree":
                return setTree(pair[0], pair[1], true);
            case "fell":
                return setTree(pair[0], pair[1], false);
            case "bench":
                return setBench(pair[0], pair[1]);
            case "party":
                return addParty(pair[0], pair[1]);
            case "move":
                return moveParty(first, pair[0], pair[1]);
            case "wind":
                return setWind(pair[0], pair[1]);
            case "throw":
                return summon(first, number);
            case "buy":
                return buy(number);
            case "hear":
                return hear(number);
            default:
                return pass(number);
        }
    }

    private Object undo() {
        if (earlier.isEmpty()) {
            return BAD_STATE;
        }
        now = earlier.removeLast();
        return earlier.size();
    }

    private Object restore() {
        if (saved == null) {
            return BAD_STATE;
        }
        now = saved.copy();
        earlier.clear();
        return now.cells.size();
    }

    private static long bits(Iterable<Integer> numbers) {
        long set = 0;
        for (int number : numbers) {
            set |= 1L << number;
        }
        return set;
    }

    private Object look(String method, int... a) {
        switch (method) {
            case "treeBits":
                return bits(now.trees);
            case "turnedTrees": case "turnedTreesByCells":
                return turned();
            case "reach": case "reachByQueue":
                return outside(a[0], a[1]) ? BAD_INDEX : bits(connected(8 * a[1] + a[0], new TreeSet<>()));
            case "bench":
                return now.bench;
            case "partyCount":
                return now.cells.size();
            case "cellOf":
                return noParty(a[0]) ? BAD_INDEX : now.cells.get(a[0]);
            case "partyIn":
                return partyIn(a[0], a[1]);
            case "servedCount":
                return noParty(a[0]) ? BAD_INDEX : now.served.get(a[0]);
            case "servingThrows": case "servingThrowsBySets":
                return noParty(a[0]) ? BAD_INDEX : serving(now.cells.get(a[0]));
            case "bestThrow":
                return noParty(a[0]) ? BAD_INDEX : bestThrow(now.cells.get(a[0]));
            case "boomerangs":
                return now.boomerangs;
            case "throwCount":
                return now.thrown;
            case "describeRow":
                return out(a[0], 0, 7) ? BAD_INDEX : describeRow(a[0]);
            case "lineAt":
                return out(a[0], 0, line.length() - 1) ? BAD_INDEX : line.charAt(a[0]);
            case "isConsistent":
                return true;
            default:
                return method.startsWith("flight") ? lookAtFlight(method, a) : lookAtPleas(method, a);
        }
    }

    private Object lookAtFlight(String method, int... a) {
        if (out(a[0], 0, 63)) {
            return BAD_ARGUMENT;
        }
        List<Integer> flight = flight(a[0]);
        int length = lengthOf(flight);
        switch (method) {
            case "flightLength":
                return length;
            case "flightCell":
                return out(a[1], 0, length) ? NO_ELEMENT : flight.get(a[1]);
            case "flightEnd":
                return endOf(flight);
            default:
                return bits(flight.subList(1, length + 1));
        }
    }

    private Object lookAtPleas(String method, int... a) {
        switch (method) {
            case "sittingBits":
                return (int) bits(now.sitting);
            case "pleaCount":
                return now.pleas.size();
            case "pleaParty":
                return noPlea(a[0]) ? BAD_INDEX : now.pleas.get(a[0]).party();
            case "pleaFrom":
                return noPlea(a[0]) ? BAD_INDEX : now.pleas.get(a[0]).from();
            case "pleaUntil":
                return noPlea(a[0]) ? BAD_INDEX : now.pleas.get(a[0]).until();
            case "describePlea":
                return noPlea(a[0]) ? BAD_INDEX : describePlea(now.pleas.get(a[0]));
            case "mostHearings": case "mostHearingsByChains":
                return mostHearings();
            case "hour":
                return now.hour;
            default:
                return lookAtAccounts(method);
        }
    }

    private Object lookAtAccounts(String method) {
        switch (method) {
            case "coins": case "coinsByAccounts":
                return now.coins;
            case "refusalReason":
                return refusal == null ? NO_ELEMENT : refusal[0];
            case "refusalDetail":
                return refusal == null ? NO_ELEMENT : refusal[1];
            case "caughtShare":
                return now.thrown == 0 ? BAD_NUMBER : (Object) (now.caught / (float) now.thrown);
            case "caughtShareBits":
                return now.thrown == 0 ? BAD_NUMBER : (Object) Float.floatToIntBits(now.caught / (float) now.thrown);
            case "meanSteps":
                return now.thrown == 0 ? BAD_NUMBER : (Object) (now.steps / (double) now.thrown);
            case "signature":
                return signature();
            case "errorPosition":
                return errorPosition == null ? NO_ELEMENT : errorPosition;
            case "failedCommand":
                return failedCommand == null ? NO_ELEMENT : failedCommand;
            default:
                throw new AssertionError("no such method: " + method);
        }
    }

    private long turned() {
        long set = 0;
        for (int tree : now.trees) {
            set |= 1L << (7 - tree / 8 + 8 * (tree % 8));
        }
        return set;
    }

    private TreeSet<Integer> connected(int cell, TreeSet<Integer> seen) {
        if (!now.trees.contains(cell) && seen.add(cell)) {
            int x = cell % 8;
            int y = cell / 8;
            connected(8 * y + (x + 1) % 8, seen);
            connected(8 * y + (x + 7) % 8, seen);
            connected((8 * y + 8) % 64 + x, seen);
            connected((8 * y + 56) % 64 + x, seen);
        }
        return seen;
    }

    private Object partyIn(int x, int y) {
        if (outside(x, y)) {
            return BAD_INDEX;
        }
        int party = now.cells.indexOf(8 * y + x);
        return party < 0 ? NO_ELEMENT : party;
    }

    private long serving(int cell) {
        List<Integer> serving = new ArrayList<>();
        for (int number = 0; number < 64; number++) {
            if (stepsTo(flight(number), cell) > 0) {
                serving.add(number);
            }
        }
        return bits(serving);
    }

    private Object bestThrow(int cell) {
        int best = Integer.MAX_VALUE;
        for (int number = 0; number < 64; number++) {
            int steps = stepsTo(flight(number), cell);
            if (steps > 0) {
                best = Math.min(best, 10000 * (number / 8 % 4) + 100 * steps + number);
            }
        }
        return best == Integer.MAX_VALUE ? NO_ELEMENT : (Object) (best % 100);
    }

    /** Which sets of pleas can be heard, hour by hour. */
    private int mostHearings() {
        TreeSet<Integer> sets = new TreeSet<>(List.of(0));
        for (int hour = now.hour; hour <= now.hour + 40; hour++) {
            if (!now.sitting.contains(hour % 24)) {
                continue;
            }
            for (int set : new ArrayList<>(sets)) {
                for (int i = 0; i < now.pleas.size(); i++) {
                    if (now.pleas.get(i).from() <= hour && hour <= now.pleas.get(i).until()) {
                        sets.add(set | 1 << i);
                    }
                }
            }
        }
        int most = 0;
        for (int set : sets) {
            most = Math.max(most, Integer.bitCount(set));
        }
        return most;
    }

    private long signature() {
        long signature = bits(now.trees) * 31;
        for (int cell : now.cells) {
            signature ^= 1L << cell;
            signature *= 31;
        }
        return signature;
    }

    private Object describeRow(int y) {
        line = "";
        for (int cell = 8 * y; cell < 8 * y + 8; cell++) {
            int party = now.cells.indexOf(cell);
            line += now.trees.contains(cell) ? "T" : now.bench == cell ? "B" : party >= 0 ? "" + party : ".";
        }
        return line.length();
    }

    private Object describePlea(Plea plea) {
        line = "p" + plea.party() + ":" + plea.from() + "-" + plea.until();
        if (now.sitting.contains(now.hour % 24) && plea.from() <= now.hour) {
            line += "*";
        }
        return line.length();
    }
}
