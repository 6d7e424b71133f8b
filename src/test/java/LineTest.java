/** Promises 51 to 57: the line, the check, undo and the snapshot. */
public final class LineTest {
    public static void main(String[] args) {
        describeRow();
        describePlea();
        lineStays();
        isConsistent();
        undo();
        undoOfEachChange();
        undoOfPleas();
        undoLimit();
        snapshot();
        Check.end();
    }

    private static void describeRow() {
        BoomerangCourt c = new BoomerangCourt();
        Check.badIndex("53 empty", () -> c.lineAt(0));
        Check.due("51 row 0", 8, () -> c.describeRow(0));
        Check.due("53 row 0", "B.......", () -> Check.lineOf(c, 8));
        Check.badIndex("53 index 8", () -> c.lineAt(8));
        Check.badIndex("53 index -1", () -> c.lineAt(-1));
        c.setTree(0, 7, true);
        c.addParty(7, 7);
        c.addParty(3, 7);
        c.setBench(2, 7);
        Check.due("51 row 7", 8, () -> c.describeRow(7));
        Check.due("53 row 7", "T.B1...0", () -> Check.lineOf(c, 8));
        for (int x = 0; x < 6; x++) {
            c.addParty(x, 3);
        }
        Check.due("51 row 3", 8, () -> c.describeRow(3));
        Check.due("53 row 3", "234567..", () -> Check.lineOf(c, 8));
        Check.badIndex("51 row 8", () -> c.describeRow(8));
        Check.badIndex("51 row -1", () -> c.describeRow(-1));
        Check.due("53 not replaced", "234567..", () -> Check.lineOf(c, 8));
    }

    private static void describePlea() {
        BoomerangCourt c = new BoomerangCourt();
        Check.badIndex("52 no plea", () -> c.describePlea(0));
        c.addParty(1, 0);
        c.addParty(4, 0);
        c.summon(1, 24);
        c.summon(0, 0);
        Check.due("52 length", 7, () -> c.describePlea(0));
        Check.due("53 too early", "p1:1-25", () -> Check.lineOf(c, 7));
        Check.badIndex("53 the line ends", () -> c.lineAt(7));
        c.setSitting(0, true);
        Check.due("52 still too early", 7, () -> c.describePlea(0));
        Check.due("52 could be heard", 8, () -> c.describePlea(1));
        Check.due("53 could be heard", "p0:0-24*", () -> Check.lineOf(c, 8));
        c.pass(24);
        Check.due("52 in its last hour", 8, () -> c.describePlea(1));
        c.setSitting(0, false);
        Check.due("52 not sitting", 7, () -> c.describePlea(1));
        Check.badIndex("52 plea 2", () -> c.describePlea(2));
        Check.badIndex("52 plea -1", () -> c.describePlea(-1));
        for (int i = 0; i < 21; i++) {
            c.pass(48);
        }
        c.summon(0, 0);
        Check.due("52 late", 12, () -> c.describePlea(0));
        Check.due("53 late", "p0:1032-1056", () -> Check.lineOf(c, 12));
        c.setSitting(0, true);
        Check.due("52 late and heard", 13, () -> c.describePlea(0));
        Check.due("53 late and heard", '*', () -> c.lineAt(12));
        example();
    }

    /** The document's example. */
    private static void example() {
        BoomerangCourt c = new BoomerangCourt();
        c.addParty(5, 5);
        c.addParty(5, 6);
        c.addParty(1, 0);
        c.pass(14);
        c.summon(2, 0);
        Check.due("52 example", 9, () -> c.describePlea(0));
        Check.due("53 example", "p2:14-38*", () -> Check.lineOf(c, 9));
    }

    private static void lineStays() {
        BoomerangCourt c = new BoomerangCourt();
        c.describeRow(0);
        c.setTree(1, 0, true);
        Check.due("53 is not written anew", "B.......", () -> Check.lineOf(c, 8));
        c.save();
        c.describeRow(0);
        c.undo();
        Check.due("53 is not undone", "BT......", () -> Check.lineOf(c, 8));
        c.describeRow(1);
        c.restore();
        Check.due("53 is not saved", "........", () -> Check.lineOf(c, 8));
        c.addParty(1, 1);
        c.summon(0, 1);
        c.describePlea(0);
        Check.due("53 shorter", "p0:0-24", () -> Check.lineOf(c, 7));
        Check.badIndex("53 nothing is left of the longer line", () -> c.lineAt(7));
    }

    private static void isConsistent() {
        BoomerangCourt c = new BoomerangCourt();
        Check.due("54 new", true, () -> c.isConsistent());
        c.setBench(4, 4);
        for (int cell : new int[] {0, 9, 21, 42, 63, 35, 28, 30, 7}) {
            c.setTree(cell % 8, cell / 8, true);
        }
        c.addParty(5, 4);
        c.addParty(2, 4);
        c.setWind(3, 2);
        c.summon(0, 24);
        c.summon(1, 36);
        c.pass(9);
        Check.due("54 later", true, () -> c.isConsistent());
    }

    private static void undo() {
        BoomerangCourt c = new BoomerangCourt();
        Check.badState("55 nothing", () -> c.undo());
        c.setTree(1, 1, true);
        c.setTree(1, 1, true);
        Check.due("55 a change that changed nothing", 1, () -> c.undo());
        Check.due("55 still there", 1L << 9, () -> c.treeBits());
        Check.due("55 the tree", 0, () -> c.undo());
        Check.due("55 gone", 0L, () -> c.treeBits());
        Check.badState("55 nothing again", () -> c.undo());
        c.setTree(1, 1, true);
        c.setTree(2, 2, true);
        c.undo();
        c.setTree(3, 3, true);
        Check.due("55 the tree at 3 3", 1, () -> c.undo());
        Check.due("55 the tree at 1 1 is left", 1L << 9, () -> c.treeBits());
        Check.badIndex("55 a failing call", () -> c.setTree(9, 9, true));
        Check.refused("55 a refused call", c, 3, 0, () -> c.setTree(0, 0, true));
        c.save();
        c.describeRow(0);
        c.append('x');
        c.isConsistent();
        Check.due("55 none of these is a change", 0, () -> c.undo());
        Check.due("47 the text is not undone", 2, () -> c.append('x'));
    }

    private static void undoOfEachChange() {
        BoomerangCourt c = new BoomerangCourt();
        c.addParty(1, 0);
        c.pass(8);
        c.summon(0, 0);
        c.setWind(2, 1);
        c.buyBoomerangs(5);
        c.setSitting(3, true);
        c.hear(0);
        c.moveParty(0, 5, 5);
        Check.due("55 moveParty", 7, () -> c.undo());
        Check.due("55 cell", 1, () -> c.cellOf(0));
        Check.due("55 hear", 6, () -> c.undo());
        Check.due("55 the plea waits", 0, () -> c.pleaParty(0));
        Check.due("55 the hour", 8, () -> c.hour());
        Check.due("55 the coins", 39, () -> c.coins());
        Check.due("55 the fines", 39, () -> c.coinsByAccounts());
        Check.due("55 setSitting", 5, () -> c.undo());
        Check.due("55 sitting", 0x3FF00, () -> c.sittingBits());
        Check.due("55 buyBoomerangs", 4, () -> c.undo());
        Check.due("55 boomerangs", 9, () -> c.boomerangs());
        Check.due("55 coins again", 49, () -> c.coins());
        Check.due("55 setWind", 3, () -> c.undo());
        Check.due("55 summon", 2, () -> c.undo());
        Check.due("55 served", 0, () -> c.servedCount(0));
        Check.due("55 throws", 0, () -> c.throwCount());
        Check.due("55 pleas", 0, () -> c.pleaCount());
        Check.due("55 pass", 1, () -> c.undo());
        Check.due("55 hours", 0, () -> c.hour());
        Check.due("55 addParty", 0, () -> c.undo());
        Check.due("55 parties", 0, () -> c.partyCount());
        c.setBench(3, 3);
        Check.due("55 setBench", 0, () -> c.undo());
        Check.due("55 bench", 0, () -> c.bench());
        Check.due("55 no wind is left", 0, () -> c.setWind(0, 0));
        Check.run(c, "wind 11;tree 44");
        Check.due("55 run", 1, () -> c.undo());
        Check.due("55 no tree", 0L, () -> c.treeBits());
    }

    private static void undoOfPleas() {
        BoomerangCourt c = new BoomerangCourt();
        c.addParty(2, 2);
        c.addParty(4, 0);
        c.pass(10);
        c.summon(1, 24);
        c.pass(2);
        c.summon(0, 0);
        Check.due("34 arm 4 in its second hour", 13, () -> c.hear(0));
        Check.due("31 the other plea moves up", 0, () -> c.pleaParty(0));
        c.undo();
        Check.due("55 its party", 1, () -> c.pleaParty(0));
        Check.due("55 its hour", 11, () -> c.pleaFrom(0));
        Check.due("55 its fine", 13, () -> c.hear(0));
        c.addParty(5, 5);
        c.summon(2, 0);
        c.summon(2, 0);
        Check.due("43 two of four", 0.5f, () -> c.caughtShare());
        Check.due("45 4, 3, 8 and 8 steps", 5.75, () -> c.meanSteps());
        c.undo();
        c.undo();
        Check.due("55 none of two", 0.0f, () -> c.caughtShare());
        Check.due("55 4 and 3 steps", 3.5, () -> c.meanSteps());
    }

    private static void undoLimit() {
        BoomerangCourt c = new BoomerangCourt();
        for (int i = 1; i <= 11; i++) {
            c.pass(1);
        }
        for (int i = 7; i >= 0; i--) {
            int left = i;
            Check.due("55 left " + i, left, () -> c.undo());
        }
        Check.due("38 three cannot be undone", 3, () -> c.hour());
        Check.badState("55 eight are undone", () -> c.undo());
        c.pass(1);
        Check.due("55 a new one", 0, () -> c.undo());
    }

    private static void snapshot() {
        BoomerangCourt c = new BoomerangCourt();
        Check.badState("57 none", () -> c.restore());
        c.addParty(1, 0);
        c.addParty(2, 1);
        c.pass(8);
        c.summon(0, 0);
        Check.due("56 two parties", 2, () -> c.save());
        c.hear(0);
        c.addParty(5, 5);
        c.setTree(6, 6, true);
        Check.due("57 two parties", 2, () -> c.restore());
        Check.due("57 the plea waits", 1, () -> c.pleaCount());
        Check.due("57 the hour", 8, () -> c.hour());
        Check.due("57 the tree", 0L, () -> c.treeBits());
        Check.badState("55 nothing can be undone", () -> c.undo());
        c.setBench(4, 4);
        c.setWind(1, 1);
        Check.due("57 is kept", 2, () -> c.restore());
        Check.due("57 bench", 0, () -> c.bench());
        c.setTree(7, 7, true);
        Check.due("56 does not hinder undo", 2, () -> c.save());
        Check.due("55 undo after save", 0, () -> c.undo());
        Check.due("57 the newer snapshot", 2, () -> c.restore());
        Check.due("57 has the tree", Long.MIN_VALUE, () -> c.treeBits());
        BoomerangCourt d = new BoomerangCourt();
        d.pass(1);
        Check.badState("57 none in another court", () -> d.restore());
        Check.due("55 which can still undo", 0, () -> d.undo());
    }
}
