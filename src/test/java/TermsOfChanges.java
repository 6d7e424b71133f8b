/** Of the sentences under "Terms", the ones about changes and exceptions. */
final class TermsOfChanges {
    private static final int TERMS = Sentences.TERMS;

    private static final String INDEX = "throws.IndexOutOfBoundsException";
    private static final String ARGUMENT = "throws.IllegalArgumentException";
    private static final String STATE = "throws.IllegalStateException";
    private static final String ELEMENT = "throws.NoSuchElementException";
    private static final String REFUSED = "throws.UnsupportedOperationException";
    private static final String NUMBER = "throws.ArithmeticException";

    interface CourtCall {
        Object of(BoomerangCourt court);
    }

    private TermsOfChanges() {
    }

    static void test() {
        whatAChangeIs();
        latestEight();
        notUndone();
        everythingElse();
        exceptionsChangeNothing();
        exceptionsInOrder();
    }

    /** A court on which each change can be made; it can undo 4 changes. */
    private static BoomerangCourt prepared() {
        BoomerangCourt c = new BoomerangCourt();
        c.addParty(1, 0);
        c.addParty(4, 3);
        c.pass(9);
        c.summon(0, 0);
        return c;
    }

    private static void change(String what, CourtCall change) {
        BoomerangCourt c = prepared();
        String before = Observed.stateOf(c);
        change.of(c);
        String after = Observed.stateOf(c);
        Check.due(what + " changes something", false, () -> after.equals(before));
        Check.due(what + " can be undone", 4, () -> c.undo());
        Check.due(what + " is undone", before, () -> Observed.stateOf(c));
    }

    private static void noChange(String what, CourtCall call) {
        BoomerangCourt c = prepared();
        c.save();
        Check.answerOf(() -> call.of(c));
        Check.due(what + " is no change", 3, () -> c.undo());
        Check.due(what + " is not undone instead of the summons", 0, () -> c.pleaCount());
    }

    private static void whatAChangeIs() {
        Sentences.test(TERMS, "A change is a successful call of setTree, setBench, setWind, addParty, moveParty, "
                + "summon, buyBoomerangs, setSitting, hear, pass or run.", c -> {
            change("setTree", d -> d.setTree(5, 5, true));
            change("setBench", d -> d.setBench(5, 5));
            change("setWind", d -> d.setWind(5, 1));
            change("addParty", d -> d.addParty(5, 5));
            change("moveParty", d -> d.moveParty(0, 5, 5));
            change("summon", d -> d.summon(1, 0));
            change("buyBoomerangs", d -> d.buyBoomerangs(1));
            change("setSitting", d -> d.setSitting(0, true));
            change("hear", d -> d.hear(0));
            change("pass", d -> d.pass(1));
            change("run", d -> Check.run(d, "tree 55"));
            unsuccessfulCalls();
            looks();
        });
        Sentences.test(TERMS, "A successful call is a change even if nothing differs afterwards.", c -> {
            CourtCall[] calls = {d -> d.setTree(5, 5, false), d -> d.setTree(0, 0, false), d -> d.setBench(0, 0),
                d -> d.setWind(0, 0), d -> d.moveParty(0, 1, 0), d -> d.setSitting(0, false),
                d -> Check.run(d, "fell 55"), d -> Check.run(d, "tree 55;fell 55")};
            for (int i = 0; i < calls.length; i++) {
                BoomerangCourt d = prepared();
                String before = Observed.stateOf(d);
                calls[i].of(d);
                Check.due("call " + i + " changes nothing", before, () -> Observed.stateOf(d));
                Check.due("call " + i + " can be undone", 4, () -> d.undo());
                Check.due("call " + i + " is undone", before, () -> Observed.stateOf(d));
            }
        });
        Sentences.test(TERMS, "A call of run that carries out several commands is one change.", c -> {
            Check.due("ten commands", 10,
                    () -> Check.run(c, "buy 1;buy 1;buy 1;buy 1;buy 1;buy 1;buy 1;buy 1;buy 1;buy 1"));
            Check.due("seven commands", 7, () -> Check.run(c, "tree 55;bench 11;wind 11;party 44;pass 1;buy 1;fell 55"));
            Check.due("the second run", 1, () -> c.undo());
            Check.due("all of it", 30, () -> c.coins());
            Check.due("no hour", 0, () -> c.hour());
            Check.due("no party", 0, () -> c.partyCount());
            Check.due("the first run", 0, () -> c.undo());
            Check.due("all of that", 10, () -> c.boomerangs());
            Check.badState("nothing else", () -> c.undo());
        });
    }

    private static void unsuccessfulCalls() {
        noChange("a refused setTree", d -> d.setTree(1, 0, true));
        noChange("setTree in no cell", d -> d.setTree(8, 0, true));
        noChange("a refused setBench", d -> d.setBench(1, 0));
        noChange("setWind out of range", d -> d.setWind(8, 0));
        noChange("a refused addParty", d -> d.addParty(1, 0));
        noChange("a refused moveParty", d -> d.moveParty(1, 1, 0));
        noChange("a refused summon", d -> d.summon(0, 0));
        noChange("buyBoomerangs out of range", d -> d.buyBoomerangs(0));
        noChange("setSitting in no hour", d -> d.setSitting(24, true));
        noChange("hear of no plea", d -> d.hear(1));
        noChange("pass of no hours", d -> d.pass(0));
        noChange("run without a text", d -> d.run());
        noChange("run that fails", d -> Check.run(d, "tree 55;tree 00"));
    }

    private static void looks() {
        noChange("append", d -> d.append('x'));
        noChange("describeRow", d -> d.describeRow(0));
        noChange("describePlea", d -> d.describePlea(0));
        noChange("isConsistent", d -> d.isConsistent());
        noChange("save", d -> d.save());
        noChange("bestThrow", d -> d.bestThrow(0));
        noChange("flightLength", d -> d.flightLength(0));
        noChange("mostHearings", d -> d.mostHearings() + d.mostHearingsByChains());
        noChange("all that is seen", d -> Observed.allOf(d));
    }

    private static void latestEight() {
        Sentences.test(TERMS, "The latest 8 changes can be undone, the latest one first.", c -> {
            for (int change = 0; change < 8; change++) {
                c.setTree(change, 4, true);
            }
            for (int left = 7; left >= 0; left--) {
                int more = left;
                Check.due("eight changes, left " + left, more, () -> c.undo());
                Check.due("trees, left " + left, ((1L << more) - 1) << 32, () -> c.treeBits());
            }
            Check.badState("no ninth", () -> c.undo());
            BoomerangCourt d = new BoomerangCourt();
            for (int change = 0; change < 9; change++) {
                d.pass(1);
            }
            for (int left = 7; left >= 0; left--) {
                int more = left;
                Check.due("nine changes, left " + left, more, () -> d.undo());
                Check.due("hours, left " + left, more + 1, () -> d.hour());
            }
            Check.badState("the first of nine", () -> d.undo());
            for (int change = 0; change < 20; change++) {
                d.pass(2);
                Check.due("between", Math.min(change, 7), () -> d.undo());
                d.pass(1);
            }
            Check.due("after 20 more", 21, () -> d.hour());
            Check.due("the latest", 7, () -> d.undo());
            Check.due("first", 20, () -> d.hour());
        });
    }

    private static void notUndone() {
        Sentences.test(TERMS, "The command text, the error position, the failed command, the kept refusal, and the "
                + "line are neither undone nor saved.", c -> {
            c.addParty(5, 5);
            c.save();
            Check.run(c, "buy");
            Check.run(c, "buy 1;tree 55");
            c.describeRow(5);
            c.setWind(1, 1);
            Check.type(c, "buy ");
            String kept = Observed.refusalOf(c) + Observed.faultsOf(c) + Observed.lineOf(c);
            c.undo();
            Check.due("not undone", kept, () -> Observed.refusalOf(c) + Observed.faultsOf(c) + Observed.lineOf(c));
            Check.due("nor is the text", 5, () -> c.append('3'));
            c.restore();
            Check.due("not restored", kept, () -> Observed.refusalOf(c) + Observed.faultsOf(c) + Observed.lineOf(c));
            Check.due("nor is the text", 1, () -> c.run());
            Check.due("it was carried out", 13, () -> c.boomerangs());
            Check.due("what is kept", "2 03 1.....0.. " + INDEX, () -> kept);
            fromBeforeASave();
        });
    }

    /** A text, a line and faults from before a save do not come back either. */
    private static void fromBeforeASave() {
        BoomerangCourt c = new BoomerangCourt();
        Check.run(c, "?");
        Check.run(c, "tree 00");
        c.describeRow(0);
        Check.type(c, "old");
        c.save();
        Check.badArgument("the old text", () -> c.run());
        Check.due("its error position", 0, () -> c.errorPosition());
        Check.run(c, "fell 1");
        Check.run(c, "buy 1;hear 0");
        c.addParty(1, 0);
        Check.refused("a newer refusal", c, 2, 0, () -> c.setBench(1, 0));
        c.describeRow(1);
        c.restore();
        Check.due("the newer faults", "6 1", () -> Observed.faultsOf(c));
        Check.due("the newer refusal", "2 0", () -> Observed.refusalOf(c));
        Check.due("the newer line", "........ " + INDEX, () -> Observed.lineOf(c));
        Check.due("the text is still empty", 1, () -> c.append('x'));
    }

    private static void everythingElse() {
        Sentences.test(TERMS, "Everything else is.", c -> {
            c.setTree(6, 6, true);
            c.setBench(3, 3);
            c.setWind(2, 1);
            Sentences.addPartiesTo(c, 3);
            c.summon(0, 1);
            c.moveParty(1, 4, 3);
            c.summon(1, 24);
            c.setWind(2, 0);
            c.summon(2, 32);
            c.buyBoomerangs(4);
            c.setSitting(0, true);
            c.pass(1);
            c.save();
            String saved = Observed.stateOf(c);
            CourtCall[] changes = {d -> d.setTree(6, 5, true), d -> d.setBench(5, 5), d -> d.setWind(6, 3),
                d -> d.moveParty(0, 1, 1), d -> d.addParty(2, 2), d -> d.summon(2, 8), d -> d.setSitting(1, true),
                d -> d.hear(0)};
            for (CourtCall change : changes) {
                change.of(c);
            }
            for (int left = 7; left >= 0; left--) {
                int more = left;
                Check.due("undone, left " + left, more, () -> c.undo());
            }
            Check.due("undone", saved, () -> Observed.stateOf(c));
            for (CourtCall change : changes) {
                change.of(c);
            }
            c.buyBoomerangs(2);
            c.pass(30);
            Check.due("something has changed", false, () -> Observed.stateOf(c).equals(saved));
            c.restore();
            Check.due("restored", saved, () -> Observed.stateOf(c));
            Check.due("the wind", 20, () -> c.setWind(0, 0));
            c.pass(8);
            Check.due("the arm of the plea", 12 + c.hour() - c.pleaFrom(0), () -> c.hear(0));
        });
    }

    /** A court in which much has happened: 8 changes can be undone, and a snapshot is there. */
    private static BoomerangCourt eventful() {
        BoomerangCourt c = new BoomerangCourt();
        c.setTree(6, 6, true);
        c.addParty(1, 0);
        c.addParty(4, 3);
        c.save();
        c.addParty(4, 0);
        c.buyBoomerangs(6);
        c.pass(9);
        c.summon(0, 0);
        c.summon(2, 24);
        c.setWind(2, 1);
        c.summon(1, 24);
        c.setWind(0, 0);
        Check.run(c, "buy 1;buy");
        Check.run(c, "buy 1;buy 1;bench 66");
        Check.answerOf(() -> c.setTree(4, 3, true));
        c.describePlea(1);
        c.setTree(5, 4, true);
        Check.type(c, "buy 1");
        return c;
    }

    private static void changesNothing(String what, String exception, CourtCall call) {
        BoomerangCourt c = eventful();
        String before = Observed.allOf(c);
        Check.due(what, exception, () -> call.of(c));
        Check.due(what + " changes nothing", before, () -> Observed.allOf(c));
        nothingElse(c, what, 6);
    }

    private static void keepsOnlyRefusal(String what, int reason, int detail, CourtCall call) {
        BoomerangCourt c = eventful();
        String before = Observed.stateOf(c) + Observed.faultsOf(c) + Observed.lineOf(c);
        Check.refused(what, c, reason, detail, () -> call.of(c));
        Check.due(what + " changes nothing else", before,
                () -> Observed.stateOf(c) + Observed.faultsOf(c) + Observed.lineOf(c));
        nothingElse(c, what, 6);
    }

    /** The text, the changes that can be undone and the snapshot are as they were. */
    private static void nothingElse(BoomerangCourt c, String what, int textLength) {
        Check.due(what + ": the text", textLength, () -> c.append('x'));
        Check.due(what + ": the latest change", 7, () -> c.undo());
        Check.due(what + ": was a tree", Sentences.bit(6, 6), () -> c.treeBits());
        Check.due(what + ": the one before", 6, () -> c.undo());
        Check.due(what + ": was the wind", 21, () -> c.setWind(0, 0));
        Check.due(what + ": the snapshot", 2, () -> c.restore());
        Check.due(what + ": with its hour", 0, () -> c.hour());
    }

    private static void exceptionsChangeNothing() {
        Sentences.test(TERMS, "A method that throws an exception changes nothing, except that a refusal is kept, and "
                + "that run clears the command text and sets the error position or the failed command.", c -> {
            ofTheYard();
            ofThrowsAndPleas();
            ofTheRest();
            refusals();
            runs();
            ofNewCourts();
        });
    }

    private static void ofTheYard() {
        changesNothing("setTree", INDEX, d -> d.setTree(8, 0, true));
        changesNothing("setBench", INDEX, d -> d.setBench(-1, 0));
        changesNothing("reach", INDEX, d -> d.reach(8, 0));
        changesNothing("reachByQueue", INDEX, d -> d.reachByQueue(0, 8));
        changesNothing("setWind", ARGUMENT, d -> d.setWind(3, 4));
        changesNothing("addParty", INDEX, d -> d.addParty(0, 8));
        changesNothing("moveParty", INDEX, d -> d.moveParty(3, 5, 5));
        changesNothing("moveParty to no cell", INDEX, d -> d.moveParty(0, 5, 8));
        changesNothing("cellOf", INDEX, d -> d.cellOf(3));
        changesNothing("partyIn", INDEX, d -> d.partyIn(8, 0));
        changesNothing("partyIn of nobody", ELEMENT, d -> d.partyIn(5, 5));
        changesNothing("servedCount", INDEX, d -> d.servedCount(3));
    }

    private static void ofThrowsAndPleas() {
        changesNothing("flightLength", ARGUMENT, d -> d.flightLength(64));
        changesNothing("flightCell", ARGUMENT, d -> d.flightCell(64, 0));
        changesNothing("flightCell too far", ELEMENT, d -> d.flightCell(0, 9));
        changesNothing("flightEnd", ARGUMENT, d -> d.flightEnd(64));
        changesNothing("flightBits", ARGUMENT, d -> d.flightBits(-1));
        changesNothing("servingThrows", INDEX, d -> d.servingThrows(3));
        changesNothing("servingThrowsBySets", INDEX, d -> d.servingThrowsBySets(3));
        changesNothing("bestThrow", INDEX, d -> d.bestThrow(3));
        changesNothing("summon", INDEX, d -> d.summon(3, 0));
        changesNothing("summon by no throw", ARGUMENT, d -> d.summon(1, 64));
        changesNothing("buyBoomerangs", ARGUMENT, d -> d.buyBoomerangs(21));
        changesNothing("buyBoomerangs without coins", STATE, d -> d.buyBoomerangs(20));
        changesNothing("setSitting", INDEX, d -> d.setSitting(24, true));
        changesNothing("pleaParty", INDEX, d -> d.pleaParty(2));
        changesNothing("pleaFrom", INDEX, d -> d.pleaFrom(2));
        changesNothing("pleaUntil", INDEX, d -> d.pleaUntil(2));
        changesNothing("hear", INDEX, d -> d.hear(2));
        changesNothing("pass", ARGUMENT, d -> d.pass(49));
    }

    private static void ofTheRest() {
        changesNothing("append", ARGUMENT, d -> d.append((char) 127));
        changesNothing("describeRow", INDEX, d -> d.describeRow(8));
        changesNothing("describePlea", INDEX, d -> d.describePlea(2));
        changesNothing("lineAt", INDEX, d -> d.lineAt(9));
        BoomerangCourt full = eventful();
        for (int length = 6; length <= 60; length++) {
            full.append(' ');
        }
        String before = Observed.allOf(full);
        Check.badState("append to 60 characters", () -> full.append('x'));
        Check.due("append to 60 characters changes nothing", before, () -> Observed.allOf(full));
        Check.badArgument("the text", () -> full.run());
        Check.due("had its blanks", 5, () -> full.errorPosition());
        nothingElse(full, "append to 60 characters", 1);
        BoomerangCourt eight = eventful();
        for (int party = 3; party < 8; party++) {
            eight.addParty(party, 7);
        }
        String eightBefore = Observed.allOf(eight);
        Check.badState("a ninth party", () -> eight.addParty(0, 5));
        Check.badState("a ninth party at the bench", () -> eight.addParty(0, 0));
        Check.due("a ninth party changes nothing", eightBefore, () -> Observed.allOf(eight));
        Check.due("nor what can be undone", 7, () -> eight.undo());
        Check.due("which was the eighth party", 7, () -> eight.partyCount());
        BoomerangCourt walled = new BoomerangCourt();
        walled.addParty(4, 4);
        for (int[] cell : new int[][] {{1, 0}, {1, 1}, {0, 1}, {7, 1}, {7, 0}, {7, 7}, {0, 7}, {1, 7}}) {
            walled.setTree(cell[0], cell[1], true);
        }
        String walledBefore = Observed.allOf(walled);
        Check.noSuchElement("bestThrow without one", () -> walled.bestThrow(0));
        Check.due("bestThrow without one changes nothing", walledBefore, () -> Observed.allOf(walled));
    }

    private static void refusals() {
        keepsOnlyRefusal("setTree at the bench", 3, 0, d -> d.setTree(0, 0, true));
        keepsOnlyRefusal("setTree at a party", 2, 2, d -> d.setTree(4, 0, true));
        keepsOnlyRefusal("setBench at a tree", 1, 54, d -> d.setBench(6, 6));
        keepsOnlyRefusal("setBench at a party", 2, 0, d -> d.setBench(1, 0));
        keepsOnlyRefusal("addParty at a tree", 1, 37, d -> d.addParty(5, 4));
        keepsOnlyRefusal("addParty at a party", 2, 2, d -> d.addParty(4, 0));
        keepsOnlyRefusal("addParty at the bench", 3, 0, d -> d.addParty(0, 0));
        keepsOnlyRefusal("moveParty to a tree", 1, 37, d -> d.moveParty(0, 5, 4));
        keepsOnlyRefusal("moveParty to a party", 2, 0, d -> d.moveParty(1, 1, 0));
        keepsOnlyRefusal("moveParty to the bench", 3, 0, d -> d.moveParty(0, 0, 0));
        keepsOnlyRefusal("summon of a party whose plea waits", 5, 1, d -> d.summon(2, 24));
        keepsOnlyRefusal("hear too early", 7, 1, d -> d.hear(1));
        BoomerangCourt c = new BoomerangCourt();
        c.addParty(1, 0);
        c.setTree(7, 0, true);
        c.summon(0, 0);
        String night = Observed.stateOf(c);
        Check.refused("hear at night", c, 6, 0, () -> c.hear(0));
        Check.due("hear at night changes nothing else", night, () -> Observed.stateOf(c));
        c.pass(25);
        for (int i = 0; i < 9; i++) {
            c.summon(0, 4);
        }
        String empty = Observed.stateOf(c);
        Check.refused("summon without a boomerang", c, 4, 40, () -> c.summon(0, 0));
        Check.due("summon without a boomerang changes nothing else", empty, () -> Observed.stateOf(c));
    }

    private static void runs() {
        BoomerangCourt c = eventful();
        String before = Observed.stateOf(c) + Observed.refusalOf(c) + Observed.lineOf(c);
        Check.due("run of no text", ARGUMENT, () -> Check.run(c, ";"));
        Check.due("run of no text changes nothing else", before,
                () -> Observed.stateOf(c) + Observed.refusalOf(c) + Observed.lineOf(c));
        Check.due("run of no text sets the error position alone", "6 2", () -> Observed.faultsOf(c));
        nothingElse(c, "run of no text", 1);
        BoomerangCourt d = eventful();
        String earlier = Observed.stateOf(d) + Observed.lineOf(d);
        Check.due("run that fails", STATE, () -> Check.run(d, ";tree 55;bench 11;pass 5;hear 0;wind 33;party 55"));
        Check.due("run that fails changes nothing else", earlier, () -> Observed.stateOf(d) + Observed.lineOf(d));
        Check.due("run that fails sets the failed command alone", "9 6", () -> Observed.faultsOf(d));
        Check.due("run that fails keeps its refusal", "1 45", () -> Observed.refusalOf(d));
        nothingElse(d, "run that fails", 1);
        BoomerangCourt e = eventful();
        String first = Observed.stateOf(e) + Observed.refusalOf(e) + Observed.lineOf(e);
        Check.due("run that fails without a refusal", STATE, () -> Check.run(e, "9;buy 1"));
        Check.due("run that fails without a refusal changes nothing else", first,
                () -> Observed.stateOf(e) + Observed.refusalOf(e) + Observed.lineOf(e));
        Check.due("run that fails without a refusal sets the failed command", "9 0", () -> Observed.faultsOf(e));
        nothingElse(e, "run that fails without a refusal", 1);
    }

    private static void ofNewCourts() {
        BoomerangCourt c = new BoomerangCourt();
        String before = Observed.allOf(c);
        Check.due("refusalReason", ELEMENT, () -> c.refusalReason());
        Check.due("refusalDetail", ELEMENT, () -> c.refusalDetail());
        Check.due("errorPosition", ELEMENT, () -> c.errorPosition());
        Check.due("failedCommand", ELEMENT, () -> c.failedCommand());
        Check.due("caughtShare", NUMBER, () -> c.caughtShare());
        Check.due("caughtShareBits", NUMBER, () -> c.caughtShareBits());
        Check.due("meanSteps", NUMBER, () -> c.meanSteps());
        Check.due("undo", STATE, () -> c.undo());
        Check.due("restore", STATE, () -> c.restore());
        Check.due("none of them changes anything", before, () -> Observed.allOf(c));
        Check.due("not even a restore", STATE, () -> c.restore());
        c.pass(3);
        Check.due("restore without a snapshot", STATE, () -> c.restore());
        Check.due("leaves what can be undone", 0, () -> c.undo());
        Check.due("undo without a change", STATE, () -> c.undo());
        Check.due("leaves the court as it is", before, () -> Observed.allOf(c));
    }

    private static void exceptionsInOrder() {
        Sentences.test(TERMS, "If several exceptions apply, the exception listed first is thrown.", c -> {
            Check.due("moveParty, neither party nor cell", INDEX, () -> c.moveParty(0, 8, 8));
            Check.due("bestThrow, no party", INDEX, () -> c.bestThrow(0));
            Check.due("summon, neither party nor throw", INDEX, () -> c.summon(0, 64));
            Check.due("partyIn, no cell and nobody", INDEX, () -> c.partyIn(8, 8));
            Check.due("flightCell, neither throw nor steps", ARGUMENT, () -> c.flightCell(64, 99));
            c.buyBoomerangs(20);
            Check.due("buyBoomerangs, too many and too dear", ARGUMENT, () -> c.buyBoomerangs(21));
            for (int party = 0; party < 8; party++) {
                c.addParty(party, 4);
            }
            Check.due("addParty, no cell and too many", INDEX, () -> c.addParty(0, 8));
            Check.due("addParty, too many and a party there", STATE, () -> c.addParty(0, 4));
            Check.due("addParty, too many and the bench there", STATE, () -> c.addParty(0, 0));
            Check.noSuchElement("none was refused", () -> c.refusalReason());
            for (int i = 0; i < 60; i++) {
                c.append(' ');
            }
            Check.due("append, a wrong code and a full buffer", ARGUMENT, () -> c.append((char) 31));
            c.setTree(1, 0, true);
            c.moveParty(0, 7, 0);
            c.summon(0, 4);
            Check.due("summon, no throw and a plea waits", ARGUMENT, () -> c.summon(0, -1));
            for (int i = 0; i < 29; i++) {
                c.summon(1, 0);
            }
            Check.due("no boomerang", 0, () -> c.boomerangs());
            Check.due("summon, no throw and no boomerang", ARGUMENT, () -> c.summon(0, -1));
            Check.due("summon, no party and no boomerang", INDEX, () -> c.summon(8, 0));
            Check.due("hear, no plea and no sitting", INDEX, () -> c.hear(1));
            Check.noSuchElement("still none was refused", () -> c.refusalReason());
            Check.due("hear, a plea and no sitting", REFUSED, () -> c.hear(0));
        });
    }
}
