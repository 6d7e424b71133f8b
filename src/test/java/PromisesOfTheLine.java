/** The sentences of the promises 51 to 57: the line, the check, undo and the snapshot. */
final class PromisesOfTheLine {
    private PromisesOfTheLine() {
    }

    static void test() {
        describeRow();
        describePlea();
        lineAt();
        isConsistent();
        undo();
        save();
        restore();
    }

    private static void line(BoomerangCourt c, String what, String want) {
        Check.due(what, want, () -> Check.lineOf(c, want.length()));
        Check.badIndex(what + ": no more", () -> c.lineAt(want.length()));
    }

    private static void describeRow() {
        Sentences.test(51, "Writes a row of the yard to the line, replacing its previous content: for each column from "
                + "0 on \"T\" for a tree, \"B\" for the bench, the number of the party that is in the cell, or \".\" "
                + "otherwise.", c -> {
            c.describeRow(0);
            line(c, "the bench", "B.......");
            c.describeRow(7);
            line(c, "nothing", "........");
            for (int x = 1; x < 8; x++) {
                c.setTree(x, 0, true);
            }
            c.describeRow(0);
            line(c, "trees", "BTTTTTTT");
            for (int party = 0; party < 8; party++) {
                c.addParty(7 - party, 7);
            }
            c.describeRow(7);
            line(c, "parties 7 to 0", "76543210");
            c.setTree(3, 0, false);
            c.moveParty(4, 3, 0);
            c.setBench(7, 3);
            c.setTree(1, 3, true);
            c.moveParty(2, 6, 3);
            c.describeRow(3);
            line(c, "all of them", ".T....2B");
            c.describeRow(0);
            line(c, "the party in column 3", ".TT4TTTT");
            c.setTree(7, 0, false);
            line(c, "what was written stays", ".TT4TTTT");
            Check.answerOf(() -> c.describeRow(8));
            line(c, "what cannot be described replaces nothing", ".TT4TTTT");
        });
        Sentences.test(51, "- `y`: the row, 0 to 7", c -> {
            c.setTree(0, 7, true);
            c.describeRow(7);
            line(c, "7 is the last", "T.......");
            c.describeRow(0);
            line(c, "0 is the first", "B.......");
            Check.badIndex("-1", () -> c.describeRow(-1));
            Check.badIndex("8", () -> c.describeRow(8));
        });
        Sentences.test(51, "Returns the length of the line, 8.", c -> {
            for (int y = 0; y < 8; y++) {
                int row = y;
                Check.due("row " + y, 8, () -> c.describeRow(row));
            }
            longPlea(c);
            Check.due("a longer line", 14, () -> c.describePlea(0));
            Check.due("8 again", 8, () -> c.describeRow(0));
            line(c, "the rest of the longer line is gone", "B0......");
        });
        Sentences.test(51, "Throws `IndexOutOfBoundsException` if there is no such row",
                c -> Sentences.noIndex(c, 7, (d, y) -> d.describeRow(y)));
    }

    /** A plea of party 0 in hour 9984. */
    private static void longPlea(BoomerangCourt c) {
        c.addParty(1, 0);
        Sentences.passTo(c, 9984);
        c.summon(0, 0);
        c.setSitting(0, true);
    }

    private static void describePlea() {
        Sentences.test(52, "Writes a plea to the line, replacing its previous content: \"p\" and its party, \":\" and "
                + "its first hour, \"-\" and its last hour, and \"*\" if it could be heard now.", c -> {
            c.addParty(1, 0);
            c.addParty(4, 0);
            c.pass(7);
            c.summon(1, 24);
            c.summon(0, 0);
            c.describePlea(0);
            line(c, "too early, and at night", "p1:8-32");
            c.setSitting(7, true);
            c.describePlea(0);
            line(c, "too early", "p1:8-32");
            c.describePlea(1);
            line(c, "in its first hour", "p0:7-31*");
            c.setSitting(7, false);
            c.describePlea(1);
            line(c, "at night", "p0:7-31");
            c.pass(1);
            c.describePlea(0);
            line(c, "then", "p1:8-32*");
            c.pass(9);
            c.describePlea(0);
            line(c, "hour 17", "p1:8-32*");
            c.pass(1);
            c.describePlea(0);
            line(c, "hour 18", "p1:8-32");
            c.pass(14);
            c.describePlea(0);
            line(c, "its last hour", "p1:8-32*");
            c.pass(1);
            Check.badIndex("expired", () -> c.describePlea(0));
            line(c, "what was written stays", "p1:8-32*");
        });
        Sentences.test(52, "An example is \"p2:14-38*\".", c -> {
            c.addParty(5, 5);
            c.addParty(6, 5);
            c.addParty(1, 0);
            c.pass(14);
            c.summon(2, 0);
            Check.due("its length", 9, () -> c.describePlea(0));
            line(c, "example", "p2:14-38*");
        });
        Sentences.test(52, "- `plea`: the index of the plea", c -> {
            Sentences.addPartiesRoundTheBench(c);
            for (int party = 7; party >= 0; party--) {
                c.summon(party, party);
            }
            c.describePlea(0);
            line(c, "0 is the first", "p7:0-24");
            c.describePlea(7);
            line(c, "7 is the last", "p0:0-24");
        });
        Sentences.test(52, "Returns the length of the line.", c -> {
            c.addParty(1, 0);
            c.summon(0, 0);
            Check.due("p0:0-24", 7, () -> c.describePlea(0));
            c.setSitting(0, true);
            Check.due("p0:0-24*", 8, () -> c.describePlea(0));
            Sentences.passTo(c, 85);
            c.summon(0, 0);
            Check.due("p0:85-109*", 10, () -> c.describePlea(0));
            line(c, "two and three digits", "p0:85-109*");
            Sentences.passTo(c, 1000);
            c.summon(0, 0);
            c.describePlea(0);
            line(c, "zeros within", "p0:1000-1024*");
            Sentences.passTo(c, 9984);
            c.summon(0, 0);
            Check.due("p0:9984-10008*", 14, () -> c.describePlea(0));
            line(c, "four and five digits", "p0:9984-10008*");
        });
        Sentences.test(52, "Throws `IndexOutOfBoundsException` if there is no such plea",
                c -> Sentences.noPlea(c, (d, plea) -> d.describePlea(plea)));
    }

    private static void lineAt() {
        Sentences.plain(53, "Returns the character.");
        Sentences.test(53, "Returns a character of the line.", c -> {
            c.setTree(7, 0, true);
            c.describeRow(0);
            Check.due("the first", 'B', () -> c.lineAt(0));
            Check.due("one between", '.', () -> c.lineAt(3));
            Check.due("the last", 'T', () -> c.lineAt(7));
        });
        Sentences.test(53, "The line is initially empty.", c -> {
            Check.badIndex("0", () -> c.lineAt(0));
            Check.badIndex("-1", () -> c.lineAt(-1));
            Check.badIndex("7", () -> c.lineAt(7));
            Check.answerOf(() -> c.describeRow(8));
            Check.answerOf(() -> c.describePlea(0));
            Check.badIndex("still", () -> c.lineAt(0));
        });
        Sentences.test(53, "- `index`: the index of the character", c -> {
            c.setTree(7, 0, true);
            c.describeRow(0);
            Check.due("0 is the first", 'B', () -> c.lineAt(0));
            Check.due("7 is the last", 'T', () -> c.lineAt(7));
        });
        Sentences.test(53, "Throws `IndexOutOfBoundsException` if there is no such index", c -> {
            Sentences.noIndex(c, -1, (d, index) -> d.lineAt(index));
            c.describeRow(0);
            Sentences.noIndex(c, 7, (d, index) -> d.lineAt(index));
            c.addParty(1, 0);
            c.summon(0, 0);
            c.describePlea(0);
            Sentences.noIndex(c, 6, (d, index) -> d.lineAt(index));
        });
    }

    private static void isConsistent() {
        Sentences.plain(54, "Returns whether all of them hold.");
        Sentences.test(54, "Checks the invariants: turnedTrees() equals turnedTreesByCells(); reach() equals "
                + "reachByQueue() for the cells 0, 21, 42 and 63 and that of the bench; servingThrows() equals "
                + "servingThrowsBySets() for all parties; mostHearings() equals mostHearingsByChains(); and coins() "
                + "equals coinsByAccounts().", c -> {
            Check.due("a new court", true, () -> c.isConsistent());
            c.setBench(3, 3);
            for (int cell : new int[] {0, 21, 42, 63, 26, 28, 19, 35}) {
                c.setTree(cell % 8, cell / 8, true);
            }
            Check.due("trees in the cells 0, 21, 42 and 63, and round the bench", true, () -> c.isConsistent());
            Sentences.addPartiesTo(c, 7);
            c.addParty(4, 4);
            c.setWind(1, 3);
            Check.due("eight parties", true, () -> c.isConsistent());
            for (int party = 0; party < 8; party++) {
                int there = party;
                Object best = Check.answerOf(() -> c.bestThrow(there));
                if (best instanceof Integer) {
                    c.summon(party, (Integer) best);
                }
            }
            Check.due("pleas", true, () -> c.isConsistent());
            c.setTree(4, 3, false);
            for (int i = 0; i < 12; i++) {
                Check.answerOf(() -> c.summon(0, 24));
            }
            Check.due("no boomerangs", true, () -> c.isConsistent());
            c.pass(48);
            Check.due("no pleas", true, () -> c.isConsistent());
            for (int cell = 0; cell < 64; cell++) {
                int there = cell;
                Check.answerOf(() -> c.setTree(there % 8, there / 8, true));
            }
            Check.due("a yard full of trees", true, () -> c.isConsistent());
        });
    }

    private static void undo() {
        Sentences.test(55, "Undoes the latest change that has not been undone.", c -> {
            c.setTree(1, 1, true);
            c.setTree(2, 2, true);
            c.setTree(3, 3, true);
            c.undo();
            Check.due("the third", 1L << 9 | 1L << 18, () -> c.treeBits());
            c.undo();
            Check.due("the second", 1L << 9, () -> c.treeBits());
            c.setTree(4, 4, true);
            c.undo();
            Check.due("the new one", 1L << 9, () -> c.treeBits());
            c.undo();
            Check.due("the first", 0L, () -> c.treeBits());
        });
        Sentences.test(55, "Returns the number of changes that can still be undone.", c -> {
            c.pass(1);
            Check.due("0 of 1", 0, () -> c.undo());
            for (int change = 0; change < 7; change++) {
                c.pass(1);
            }
            Check.due("6 of 7", 6, () -> c.undo());
            c.pass(1);
            c.pass(1);
            Check.due("7 of 8", 7, () -> c.undo());
            c.pass(1);
            c.pass(1);
            Check.due("7 of 9, as 8 are the most", 7, () -> c.undo());
            for (int left = 6; left >= 0; left--) {
                int more = left;
                Check.due("left " + left, more, () -> c.undo());
            }
            Check.due("the first of nine is not undone", 1, () -> c.hour());
        });
        Sentences.test(55, "Throws `IllegalStateException` if there is no change to undo", c -> {
            Check.badState("a new court", () -> c.undo());
            c.append('x');
            c.save();
            Check.answerOf(() -> c.setTree(0, 0, true));
            Check.badState("no change yet", () -> c.undo());
            c.setTree(1, 1, true);
            c.undo();
            Check.badState("one, which is undone", () -> c.undo());
            for (int change = 0; change < 9; change++) {
                c.pass(1);
            }
            for (int change = 0; change < 8; change++) {
                c.undo();
            }
            Check.badState("nine, of which eight are undone", () -> c.undo());
            Check.due("one is left", 1, () -> c.hour());
            c.pass(1);
            c.restore();
            Check.badState("after a restore", () -> c.undo());
        });
    }

    private static void save() {
        Sentences.test(56, "Saves everything that changes can change as the snapshot, replacing an earlier snapshot.",
                c -> {
            c.save();
            c.setTree(1, 1, true);
            c.setBench(2, 2);
            c.setWind(3, 3);
            c.addParty(3, 3);
            c.addParty(3, 2);
            c.moveParty(0, 5, 5);
            c.setWind(2, 0);
            c.summon(1, 0);
            c.summon(0, 24);
            c.buyBoomerangs(3);
            c.setSitting(2, true);
            c.pass(2);
            c.save();
            String saved = Observed.stateOf(c);
            c.hear(0);
            c.setTree(1, 1, false);
            c.setBench(1, 1);
            c.setWind(1, 1);
            c.moveParty(1, 7, 7);
            c.addParty(4, 4);
            c.setSitting(2, false);
            c.summon(2, 8);
            c.pass(40);
            c.restore();
            Check.due("the newer one", saved, () -> Observed.stateOf(c));
            Check.due("its wind", 20, () -> c.setWind(0, 0));
            Check.due("its plea", 3 + 2, () -> c.hear(0));
        });
        Sentences.test(56, "Returns the number of parties.", c -> {
            for (int parties = 0; parties < 8; parties++) {
                int count = parties;
                Check.due("parties " + parties, count, () -> c.save());
                c.addParty(parties, 5);
            }
            Check.due("all 8", 8, () -> c.save());
        });
    }

    private static void restore() {
        Sentences.test(57, "Restores the snapshot, which is kept.", c -> {
            c.setTree(1, 1, true);
            c.save();
            c.setTree(2, 2, true);
            c.restore();
            Check.due("restored", 1L << 9, () -> c.treeBits());
            c.setTree(3, 3, true);
            c.setTree(1, 1, false);
            c.restore();
            Check.due("kept", 1L << 9, () -> c.treeBits());
            c.restore();
            Check.due("kept still", 1L << 9, () -> c.treeBits());
            c.pass(5);
            c.undo();
            c.addParty(4, 4);
            c.restore();
            Check.due("also after an undo", 0, () -> c.partyCount());
        });
        Sentences.test(57, "After the call no change can be undone.", c -> {
            c.pass(1);
            c.save();
            for (int change = 0; change < 9; change++) {
                c.pass(1);
            }
            c.restore();
            Check.badState("none", () -> c.undo());
            Check.due("nothing was undone", 1, () -> c.hour());
            c.pass(1);
            Check.due("but a new one", 0, () -> c.undo());
            Check.badState("and none else", () -> c.undo());
        });
        Sentences.test(57, "Returns the number of parties.", c -> {
            c.save();
            c.addParty(1, 0);
            Check.due("none", 0, () -> c.restore());
            Sentences.addPartiesTo(c, 8);
            c.save();
            c.undo();
            Check.due("8", 8, () -> c.restore());
        });
        Sentences.test(57, "Throws `IllegalStateException` if there is no snapshot", c -> {
            Check.badState("a new court", () -> c.restore());
            c.pass(1);
            Check.badState("a change is no snapshot", () -> c.restore());
            Check.due("which can be undone", 0, () -> c.undo());
            c.save();
            Check.due("a snapshot", 0, () -> c.restore());
        });
    }
}
