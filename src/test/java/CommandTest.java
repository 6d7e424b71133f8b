/** Promises 47 to 50: the command text, run, error positions and failed commands. */
public final class CommandTest {
    public static void main(String[] args) {
        append();
        everyCommand();
        errorPositions();
        errorState();
        failures();
        failuresOfEachCommand();
        refusalInRun();
        laterCommandsSeeEarlierOnes();
        longTexts();
        Check.end();
    }

    private static void append() {
        BoomerangCourt c = new BoomerangCourt();
        for (char character : new char[] {0, 31, 127, 128, 255, 0xFFFF}) {
            Check.badArgument("47 code " + (int) character, () -> c.append(character));
        }
        Check.due("47 a blank", 1, () -> c.append(' '));
        Check.due("47 a tilde", 2, () -> c.append('~'));
        for (int i = 3; i <= 60; i++) {
            int length = i;
            Check.due("47 length " + i, length, () -> c.append('a'));
        }
        Check.badState("47 60 characters", () -> c.append('a'));
        Check.badArgument("47 the code goes before the length", () -> c.append((char) 127));
        Check.badArgument("48 no command text", () -> c.run());
        Check.due("47 empty again", 1, () -> c.append('a'));
    }

    private static void everyCommand() {
        BoomerangCourt c = new BoomerangCourt();
        Check.due("48 tree", 1, () -> Check.run(c, "tree 12"));
        Check.due("48 its column is 1", 1L << 17, () -> c.treeBits());
        Check.due("48 fell", 1, () -> Check.run(c, "fell 12"));
        Check.due("48 felled", 0L, () -> c.treeBits());
        Check.due("48 bench", 1, () -> Check.run(c, "bench 34"));
        Check.due("48 column 3, row 4", 35, () -> c.bench());
        Check.due("48 party", 1, () -> Check.run(c, "party 67"));
        Check.due("48 column 6, row 7", 62, () -> c.cellOf(0));
        Check.due("48 move", 1, () -> Check.run(c, "move 0@76"));
        Check.due("48 column 7, row 6", 55, () -> c.cellOf(0));
        Check.due("48 wind", 1, () -> Check.run(c, "wind 53"));
        Check.due("48 direction 5, strength 3", 53, () -> c.setWind(0, 0));
        Check.due("48 buy", 1, () -> Check.run(c, "buy 7"));
        Check.due("48 17 boomerangs", 17, () -> c.boomerangs());
        Check.due("48 buy with two digits", 1, () -> Check.run(c, "buy 10"));
        Check.due("48 27 boomerangs", 27, () -> c.boomerangs());
        Check.due("48 a leading 0", 1, () -> Check.run(c, "buy 01"));
        Check.due("48 28 boomerangs", 28, () -> c.boomerangs());
        Check.due("48 pass", 1, () -> Check.run(c, "pass 8"));
        Check.due("48 pass with two digits", 1, () -> Check.run(c, "pass 24"));
        Check.due("48 hour 32", 32, () -> c.hour());
        c.moveParty(0, 4, 4);
        Check.due("48 throw", 1, () -> Check.run(c, "throw 0#0"));
        Check.due("48 served", 1, () -> c.servedCount(0));
        Check.due("48 hear", 1, () -> Check.run(c, "hear 0"));
        Check.due("48 heard", 0, () -> c.pleaCount());
        Check.due("48 throw with two digits", 1, () -> Check.run(c, "throw 0#63"));
        Check.due("48 two throws", 2, () -> c.throwCount());
        Check.due("48 several", 4, () -> Check.run(c, "tree 00;tree 77;fell 00;party 11"));
        Check.due("48 trees", 1L << 63, () -> c.treeBits());
        Check.due("48 parties", 2, () -> c.partyCount());
        Check.noSuchElement("49 never set", () -> c.errorPosition());
        Check.noSuchElement("50 never set", () -> c.failedCommand());
    }

    private static void error(String text, int position) {
        BoomerangCourt c = new BoomerangCourt();
        Check.due("48 " + text, "throws.IllegalArgumentException", () -> Check.run(c, text));
        Check.due("49 " + text, position, () -> c.errorPosition());
        Check.noSuchElement("50 " + text, () -> c.failedCommand());
        Check.due("47 empty after " + text, 1, () -> c.append('x'));
        Check.due("55 no change by " + text, "throws.IllegalStateException", () -> c.undo());
    }

    private static void errorPositions() {
        error("", 0);
        error(";", 0);
        error(" ", 0);
        error("x", 0);
        error("T", 0);
        error("t", 1);
        error("tx", 1);
        error("tr", 2);
        error("th", 2);
        error("tree", 4);
        error("tree ", 5);
        error("tree  11", 5);
        error("tree 1", 6);
        error("tree 1;", 6);
        error("tree 11 ", 7);
        error("tree 111", 7);
        error("tree 11;", 8);
        error("tree 11;;", 8);
        error("tree 11; tree 12", 8);
        error("tree 11;tree 12;x", 16);
        error("trow 1#1", 2);
        error("thee 11", 2);
        error("throw 1", 7);
        error("throw 1@", 7);
        error("throw 1#", 8);
        error("throw 1#;", 8);
        error("throw 1#1x", 9);
        error("throw 1#11x", 10);
        error("throw 1#111", 10);
        error("throw 11#1", 7);
        error("bu", 2);
        error("be", 2);
        error("ba", 1);
        error("benck", 4);
        error("buy", 3);
        error("buy ", 4);
        error("buy -1", 4);
        error("buy 1 ", 5);
        error("buy 100", 6);
        error("pa", 2);
        error("pax", 2);
        error("pat", 2);
        error("pas", 3);
        error("pass 1;pass", 11);
        error("parts", 4);
        error("party 1", 7);
        error("party 1:", 7);
        error("move 1", 6);
        error("move 1#", 6);
        error("move 1@1", 8);
        error("move 1@1;", 8);
        error("move 1@111", 9);
        error("wind 1", 6);
        error("wind 123", 7);
        error("wand", 1);
        error("hear 12", 6);
        error("hear /", 5);
        error("hear :", 5);
        error("fell 1/", 6);
        error("fel 11", 3);
        error("fell11", 4);
        error("heal", 3);
    }

    private static void errorState() {
        BoomerangCourt c = new BoomerangCourt();
        Check.due("48 fails", "throws.IllegalStateException", () -> Check.run(c, "buy 1;tree 00"));
        Check.due("50 second", 1, () -> c.failedCommand());
        Check.noSuchElement("49 left as it is", () -> c.errorPosition());
        Check.due("48 error", "throws.IllegalArgumentException", () -> Check.run(c, "buy 1;buy"));
        Check.due("49 set", 9, () -> c.errorPosition());
        Check.due("50 left as it is", 1, () -> c.failedCommand());
        Check.due("48 fine", 1, () -> Check.run(c, "buy 1"));
        Check.due("49 stays", 9, () -> c.errorPosition());
        Check.due("50 stays", 1, () -> c.failedCommand());
        Check.due("48 fails first", "throws.IllegalStateException", () -> Check.run(c, "hear 0;tree 00"));
        Check.due("50 first", 0, () -> c.failedCommand());
        Check.due("49 stays again", 9, () -> c.errorPosition());
        c.save();
        Check.due("48 error at once", "throws.IllegalArgumentException", () -> Check.run(c, "?"));
        c.restore();
        Check.due("49 is not saved", 0, () -> c.errorPosition());
        Check.due("48 fails third", "throws.IllegalStateException", () -> Check.run(c, "buy 1;buy 1;buy 0"));
        c.setWind(1, 1);
        c.undo();
        Check.due("50 is not undone", 2, () -> c.failedCommand());
    }

    private static void failures() {
        BoomerangCourt c = new BoomerangCourt();
        c.addParty(1, 0);
        c.pass(9);
        String text = "wind 11;party 55;bench 22;tree 33;buy 9;pass 9;hear 0";
        Check.due("48 fails", "throws.IllegalStateException", () -> Check.run(c, text));
        Check.due("50 the last", 6, () -> c.failedCommand());
        Check.due("48 no wind", 0, () -> c.setWind(0, 0));
        Check.due("48 no party", 1, () -> c.partyCount());
        Check.due("48 no bench", 0, () -> c.bench());
        Check.due("48 no tree", 0L, () -> c.treeBits());
        Check.due("48 no boomerangs", 10, () -> c.boomerangs());
        Check.due("48 no hours", 9, () -> c.hour());
        Check.due("55 only the wind, the hours and the party", 2, () -> c.undo());
        String served = "throw 0#0;hear 0;throw 0#0;throw 0#0";
        Check.due("48 fails late", "throws.IllegalStateException", () -> Check.run(c, served));
        Check.due("50 the last throw", 3, () -> c.failedCommand());
        Check.due("48 no plea", 0, () -> c.pleaCount());
        Check.due("48 not served", 0, () -> c.servedCount(0));
        Check.due("48 no throws", 0, () -> c.throwCount());
        Check.due("48 no fine", 50, () -> c.coinsByAccounts());
        Check.due("48 no costs", 50, () -> c.coins());
        Check.due("41 but the refusal is kept", 5, () -> c.refusalReason());
    }

    private static void failing(String text, int index) {
        BoomerangCourt c = new BoomerangCourt();
        Check.due("48 " + text, "throws.IllegalStateException", () -> Check.run(c, text));
        Check.due("50 " + text, index, () -> c.failedCommand());
        Check.noSuchElement("49 " + text, () -> c.errorPosition());
        Check.due("55 " + text, "throws.IllegalStateException", () -> c.undo());
        Check.due("46 " + text, 0L, () -> c.signature());
        Check.due("47 empty after " + text, 1, () -> c.append('x'));
    }

    private static void failuresOfEachCommand() {
        failing("tree 80", 0);
        failing("tree 08", 0);
        failing("tree 00", 0);
        failing("fell 99", 0);
        failing("fell 00;bench 80", 1);
        failing("bench 09", 0);
        failing("tree 11;bench 11", 1);
        failing("party 08", 0);
        failing("party 00", 0);
        failing("move 0@11", 0);
        failing("party 11;move 1@22", 1);
        failing("party 11;move 0@82", 1);
        failing("party 11;move 0@00", 1);
        failing("wind 80", 0);
        failing("wind 04", 0);
        failing("throw 0#0", 0);
        failing("party 10;throw 0#64", 1);
        failing("party 10;throw 0#0;throw 0#0", 2);
        failing("buy 0", 0);
        failing("buy 21", 0);
        failing("buy 20;buy 6", 1);
        failing("hear 9", 0);
        failing("pass 0", 0);
        failing("pass 49", 0);
        failing("pass 00", 0);
    }

    private static void refusalInRun() {
        BoomerangCourt c = new BoomerangCourt();
        Check.run(c, "tree 11;party 22;party 33;bench 33");
        Check.due("41 a party in the cell", 2, () -> c.refusalReason());
        Check.due("42 a party that is gone again", 1, () -> c.refusalDetail());
        Check.run(c, "buy 0");
        Check.due("41 no refusal, so the old one stays", 2, () -> c.refusalReason());
        Check.run(c, "party 10;pass 7;throw 0#0;hear 0");
        Check.due("41 the court does not sit", 6, () -> c.refusalReason());
        Check.due("42 at the hour of that command", 7, () -> c.refusalDetail());
        Check.due("38 which is gone again", 0, () -> c.hour());
    }

    private static void laterCommandsSeeEarlierOnes() {
        BoomerangCourt c = new BoomerangCourt();
        String text = "party 10;pass 8;throw 0#0;hear 0;buy 2;move 0@11;tree 10";
        Check.due("48 all of them", 7, () -> Check.run(c, text));
        Check.due("48 hour", 9, () -> c.hour());
        Check.due("48 coins", 48, () -> c.coins());
        Check.due("48 tree", 2L, () -> c.treeBits());
        Check.due("55 one change", 0, () -> c.undo());
        Check.due("55 no hour", 0, () -> c.hour());
        Check.due("55 no party", 0, () -> c.partyCount());
        Check.due("55 no tree", 0L, () -> c.treeBits());
    }

    private static void longTexts() {
        BoomerangCourt c = new BoomerangCourt();
        String ten = "buy 1;buy 1;buy 1;buy 1;buy 1;buy 1;buy 1;buy 1;buy 1;buy 1";
        Check.due("48 ten commands", 10, () -> Check.run(c, ten));
        Check.due("26 ten more", 20, () -> c.boomerangs());
        c.undo();
        Check.due("48 60 characters", 10, () -> Check.run(c, ten + "0"));
        Check.due("26 nine and ten more", 29, () -> c.boomerangs());
        BoomerangCourt d = new BoomerangCourt();
        Check.due("48 ends with ;", "throws.IllegalArgumentException", () -> Check.run(d, ten + ";"));
        Check.due("49 the length", 60, () -> d.errorPosition());
        Check.due("48 fails", "throws.IllegalStateException", () -> Check.run(d, ten.replace("1;buy 1", "9;buy 1")));
        Check.due("50 too dear", 4, () -> d.failedCommand());
    }
}
