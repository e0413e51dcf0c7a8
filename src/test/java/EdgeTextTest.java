/** The boundary cases of promises 1 to 8, by the promise's number; those of the text are with promises 4 and 5. */
final class EdgeTextTest {
    private static final int BAD = HatHours.BAD, NONE = HatHours.NONE;
    private static final String FIVE = "veil 1 1 1 1 1;veil 2 1 1 1 1;veil 3 1 1 1 1;veil 4 1 1 1 1;veil 5 1 1 1 1;";
    private static final Due due = new Due("EdgeTextTest");

    public static void main(String[] args) {
        promise1NoBoxes();
        promise1SheetsOfNothing();
        promise2EachByte();
        promise2Full();
        promise3FirstBytes();
        promise4EmptyTexts();
        promise4FullTape();
        promise4TellsAll();
        promise5EachFirstByte();
        promise5NumbersTooLong();
        promise5TokenThatCanNotStandThere();
        promise5Bounds();
        promise5SecondTime();
        promise5SixthBox();
        promise5BoxThatThereIsNot();
        promise5TheFirstMet();
        promise5TheLatest();
        promise6Extremes();
        promise6YawnsFromSixOn();
        promise7LastsAndOwnHour();
        promise7WrongRoundTheClock();
        promise8DoneIsNotOfOneDay();
        due.close();
    }

    private static void faulty(String text, int fault, int place) {
        HatHours x = new HatHours();
        due.is("5 '" + text + "'", Due.tell(x, text), -10 - place);
        due.is("5 '" + text + "' fault", x.fault(), fault);
        due.is("5 '" + text + "' empties the tape", x.count(2), 0);
    }

    private static void promise1NoBoxes() {
        HatHours x = new HatHours();
        due.is("1 START is 6 at first", x.rule(1), 6);
        due.is("1 best of none", x.best(0), 0);
        due.is("1 begin of none", x.begin(0), 0);
        due.is("1 begin of none, wrong", x.begin(1), 0);
        due.is("1 swap of none", x.swap(0), NONE);
        due.is("1 mean of none", x.mean(10, 0), 0);
        due.is("1 mean of none, by", x.mean(10, 1), 1);
        for (int r = 0; r < 5; r++) {
            due.is("1 yawns", x.room(r, 0), 0);
            due.is("1 strange hours", x.room(r, 1), 0);
            for (int h = 0; h < 24; h++) {
                due.is("1 o'clock", x.clock(r, h, 0), h);
                due.is("1 by none", x.clock(r, h, 1), NONE);
                due.is("1 first", x.first(r, h), h);
            }
        }
    }

    private static void promise1SheetsOfNothing() {
        HatHours x = new HatHours();
        due.is("1 no cells", x.count(3), NONE);
        for (int k = 0; k < 4; k++) {
            due.is("1 lay", x.lay(k, 0, 0), -11);
            for (int lane = 0; lane < 3; lane++) {
                due.is("1 read", x.read(k, lane, 0, 1), 0);
                due.is("1 torn", x.torn(), 1);
            }
        }
    }

    private static void promise2EachByte() {
        HatHours x = new HatHours();
        for (int c = 0; c <= 127; c++) {
            due.is("2 feed " + c, x.feed(c), c + 1);
        }
        due.is("2 below", x.feed(-1), BAD);
        due.is("2 above", x.feed(128), BAD);
        due.is("2 above, as a byte it would do", x.feed(256 + 'a'), BAD);
        due.is("2 so many", x.count(2), 128);
    }

    private static void promise2Full() {
        HatHours x = new HatHours();
        for (int i = 1; i <= 160; i++) {
            due.is("2 the " + i + "th", x.feed(' '), i);
        }
        due.is("2 the 161st", x.feed(' '), HatHours.FULL);
        due.is("2 again", x.feed(' '), HatHours.FULL);
        due.is("2 160 are", x.end(160), 160);
        due.is("2 full yet", x.feed(' '), HatHours.FULL);
        due.is("2 one less", x.end(159), 160);
        due.is("2 one more", x.feed(' '), 160);
        due.is("2 and none more", x.feed(' '), HatHours.FULL);
        due.is("2 the text", x.text(), 0);
        due.is("2 from the first byte on", x.feed(' '), 1);
    }

    private static void promise3FirstBytes() {
        HatHours x = new HatHours();
        due.is("3 none of none", x.end(0), 0);
        due.is("3 one of none", x.end(1), BAD);
        Due.feed(x, "start 23;start 5;");
        due.is("3 more than there are", x.end(18), BAD);
        due.is("3 below", x.end(-1), BAD);
        due.is("3 all", x.end(17), 17);
        due.is("3 the first nine", x.end(9), 17);
        due.is("3 nine are", x.count(2), 9);
        due.is("3 those cut are gone", x.end(10), BAD);
        due.is("3 they are taken", x.text(), 1);
        due.is("3 the first, not the last", x.rule(1), 23);
        Due.feed(x, "start 2");
        due.is("3 all but one", x.end(6), 7);
        Due.feed(x, "9;");
        due.is("3 what comes is behind what is kept", x.text(), 1);
        due.is("3 9 in place of 2", x.rule(1), 9);
    }

    private static void promise4EmptyTexts() {
        HatHours x = Due.told(FIVE + "start 9;order 4;");
        due.is("4 nothing", x.text(), 0);
        due.is("4 no fault", x.fault(), 0);
        due.is("4 no boxes", x.rule(0), 0);
        due.is("4 START as at first", x.rule(1), 6);
        due.is("4 one blank", Due.tell(x, " "), 0);
        due.is("4 order of none", Due.tell(x, "order;"), 1);
    }

    private static void promise4FullTape() {
        StringBuilder blanks = new StringBuilder();
        while (blanks.length() < 160) {
            blanks.append(' ');
        }
        due.is("4 160 blanks", Due.tell(new HatHours(), blanks.toString()), 0);
        faulty(blanks.substring(1) + "@", 1, 159);
        faulty(blanks.substring(1) + "a", 2, 159);
        faulty(blanks.substring(5) + "start", 2, 160);
        faulty(blanks.substring(7) + "start 7", 2, 160);
        faulty(blanks.substring(8) + "order 0;", 6, 160);
        due.is("4 the last byte ends a line", Due.tell(new HatHours(), blanks.substring(8) + "start 7;"), 1);
        StringBuilder name = new StringBuilder();
        while (name.length() < 160) {
            name.append('z');
        }
        faulty(name.toString(), 2, 0);
        faulty(name.toString().replace('z', '7'), 1, 0);
        // The longest lines there are, all five and the two others.
        String longest = "bonnet 12 23 9 23 4;bonnet 12 23 9 23 4;bridal 12 23 9 23 4;bridal 12 23 9 23 4;"
                + "bonnet 12 23 9 23 4;order 4 3 2 1 0;start 23;";
        HatHours x = new HatHours();
        due.is("4 seven lines", Due.tell(x, longest), 7);
        due.is("4 five boxes", x.rule(0), 5);
        due.is("4 all of them in the order", x.order(4, 0), 0);
    }

    private static void promise4TellsAll() {
        HatHours x = Due.told("veil 1 1 1 1 1;veil 1 1 1 1 1;order 1;start 20;");
        x.see(0, 1, 1);
        x.keep(0);
        x.keep(1);
        x.sheet(2, 1, 3);
        x.read(3, 0, 0, 1);
        due.is("4 refused", Due.tell(x, "veil 1 1 1 1 5;"), -23);
        due.is("4 boxes stay", x.rule(0), 2);
        due.is("4 the order stays", x.order(0, 0), 1);
        due.is("4 SEEN stays", x.count(0), 1);
        due.is("4 images stay", x.count(1), 2);
        due.is("4 taken", Due.tell(x, "veil 1 1 1 1 4;"), 1);
        due.is("4 one box", x.rule(0), 1);
        due.is("4 START is not told, so 6", x.rule(1), 6);
        due.is("4 nothing is SEEN", x.count(0), 0);
        due.is("4 images are gone", x.count(1), 0);
        due.is("4 image 0", x.back(0), HatHours.STATE);
        due.is("4 image 1", x.back(1), HatHours.STATE);
        due.is("4 a sheet stays", x.lay(2, 2, 1), 1);
        due.is("4 torn stays", x.torn(), 1);
    }

    /** A byte alone: a blank, a TOKEN that begins no line, or no TOKEN. */
    private static void promise5EachFirstByte() {
        for (int c = 0; c <= 127; c++) {
            HatHours x = new HatHours();
            x.feed(c);
            boolean token = c == ';' || c >= '0' && c <= '9' || c >= 'a' && c <= 'z';
            due.is("5 byte " + c, x.text(), c == ' ' ? 0 : -10);
            due.is("5 byte " + c + " fault", x.fault(), c == ' ' ? 0 : token ? 2 : 1);
        }
        for (int c = 0; c <= 127; c++) {
            HatHours x = new HatHours();
            Due.feed(x, "start 7");
            x.feed(c);
            Due.feed(x, ";");
            boolean figure = c >= '0' && c <= '9';
            boolean token = figure || c >= 'a' && c <= 'z' || c == ';';
            int place = figure ? 6 : c == ';' ? 8 : 7;
            due.is("5 start 7, byte " + c, x.text(), c == ' ' ? 1 : -10 - place);
            due.is("5 start 7, byte " + c + " fault", x.fault(), c == ' ' ? 0 : figure ? 3 : token ? 2 : 1);
        }
    }

    private static void promise5NumbersTooLong() {
        faulty("100", 1, 0);
        faulty("start 000;", 1, 6);
        faulty("start 0000000001;", 1, 6);
        faulty("start 230", 1, 6);
        faulty("order 0 001;", 1, 8);
        faulty("veil 1 1 1 1 001;", 1, 13);
        faulty("veil 1 1 1 1 1 111;", 1, 15);
        due.is("5 two figures", Due.tell(new HatHours(), "start 00;"), 1);
        due.is("5 two figures of each", Due.tell(new HatHours(), "veil 01 01 01 01 01;order 00;"), 2);
    }

    private static void promise5TokenThatCanNotStandThere() {
        faulty("startorder;", 2, 0);
        faulty("start7;orders;", 2, 7);
        faulty("start7 start8;", 2, 7);
        faulty("order order;", 2, 6);
        faulty("order", 2, 5);
        faulty("order  ", 2, 7);
        faulty("order 0  ", 2, 9);
        faulty("order 0 veil;", 2, 8);
        faulty("start ;", 2, 6);
        faulty("start 7 ;;", 2, 9);
        faulty("start 7 7", 2, 8);
        faulty("start 7 order", 2, 8);
        String line = "bridal 1 1 1 1 1;";
        for (int n = 0; n < 5; n++) {
            String head = line.substring(0, 6 + 2 * n);
            faulty(head, 2, head.length());
            faulty(head + " ", 2, head.length() + 1);
            faulty(head + ";", 2, head.length());
            faulty(head + " x", 2, head.length() + 1);
        }
        faulty(line.substring(0, 16), 2, 16);
        faulty(line.substring(0, 16) + "x", 2, 16);
        faulty(line.substring(0, 16) + " 1", 2, 17);
        for (String name : new String[] {"bonnet", "veil", "toque", "bridal", "order", "start"}) {
            faulty(name.substring(1) + " 1;", 2, 0);
            faulty(name.substring(0, name.length() - 1) + " 1;", 2, 0);
            faulty(name + "s 1;", 2, 0);
            faulty("start 1;" + "z" + name, 2, 8);
            for (int i = 0; i < name.length(); i++) {
                faulty(name.substring(0, i) + "z" + name.substring(i + 1) + " 1;", 2, 0);
            }
        }
    }

    /** Each NUMBER of a line, from 0 to 99. */
    private static void promise5Bounds() {
        int[] least = {1, 0, 1, 0, 0};
        int[] most = {12, 23, 9, 23, 4};
        for (String name : new String[] {"bonnet", "veil", "toque", "bridal"}) {
            for (int i = 0; i < 5; i++) {
                for (int v = 0; v <= 99; v++) {
                    int place = name.length() + 1 + 2 * i;
                    StringBuilder text = new StringBuilder(name);
                    for (int k = 0; k < 5; k++) {
                        text.append(' ').append(k == i ? v : 1);
                    }
                    bounded(text.append(';').toString(), v >= least[i] && v <= most[i], place);
                }
            }
        }
        for (int v = 0; v <= 99; v++) {
            bounded("start " + v + ";", v <= 23, 6);
        }
        for (int v = 0; v <= 99; v++) {
            HatHours x = new HatHours();
            due.is("5 order " + v, Due.tell(x, FIVE + "order " + v + ";"), v <= 4 ? 6 : -91);
            due.is("5 order " + v + " fault", x.fault(), v <= 4 ? 0 : 3);
        }
    }

    private static void bounded(String text, boolean within, int place) {
        HatHours x = new HatHours();
        due.is("5 '" + text + "'", Due.tell(x, text), within ? 1 : -10 - place);
        due.is("5 '" + text + "' fault", x.fault(), within ? 0 : 3);
    }

    private static void promise5SecondTime() {
        faulty("start 7;start 7;", 4, 8);
        faulty("start 7;start", 4, 8);
        faulty("start 7; order; start", 4, 16);
        faulty("order;start 7;order 0;", 4, 14);
        faulty("order 3 3;", 4, 8);
        faulty("order 3 03;", 4, 8);
        faulty("order 0 1 2 3 4 0;", 4, 16);
        faulty("order 0 1 2 3 4 4;", 4, 16);
        faulty("order 0 1 2 3 4 5;", 3, 16);
        due.is("5 each once", Due.tell(new HatHours(), FIVE + "order 4 3 2 1 0;"), 6);
    }

    private static void promise5SixthBox() {
        due.is("5 five", Due.tell(new HatHours(), FIVE), 5);
        for (String name : new String[] {"bonnet", "veil", "toque", "bridal"}) {
            faulty(FIVE + " " + name + " 1 1 1 1 1;", 5, 76);
            faulty(FIVE + name, 5, 75);
            faulty(FIVE + name + " 99", 5, 75);
        }
        faulty(FIVE + "veils 1 1 1 1 1;", 2, 75);
        faulty(FIVE + "order 0;veil", 5, 83);
    }

    private static void promise5BoxThatThereIsNot() {
        for (int boxes = 0; boxes < 5; boxes++) {
            String some = FIVE.substring(0, 15 * boxes);
            for (int b = 0; b < 5; b++) {
                String text = some + "order " + b + ";";
                HatHours x = new HatHours();
                due.is("5 '" + text + "'", Due.tell(x, text), b < boxes ? boxes + 1 : -10 - text.length());
                due.is("5 '" + text + "' fault", x.fault(), b < boxes ? 0 : 6);
            }
        }
        faulty("order 0;   ", 6, 11);
        faulty("order 0 1;veil 1 1 1 1 1;", 6, 25);
        HatHours x = new HatHours();
        due.is("5 the box comes behind", Due.tell(x, "order 1;veil 1 1 1 1 1;veil 2 1 1 1 1;"), 3);
        due.is("5 and is the first", x.order(0, 0), 1);
        due.is("5 the other behind it", x.order(1, 0), 0);
    }

    private static void promise5TheFirstMet() {
        faulty("order 0;@", 1, 8);
        faulty("order 0;x", 2, 8);
        faulty("order 0;start", 2, 13);
        faulty("order 0;start 24;", 3, 14);
        faulty("order 0;order;", 4, 8);
        faulty("start 24@", 3, 6);
        faulty("start 24", 3, 6);
        faulty("start 7;start@", 4, 8);
        faulty("order 1 1@", 4, 8);
        faulty("veil@", 1, 4);
        faulty("x@", 2, 0);
        faulty("7@", 2, 0);
        faulty("777@", 1, 0);
        faulty("veil 13 777", 3, 5);
    }

    private static void promise5TheLatest() {
        HatHours x = new HatHours();
        due.is("5 none yet", x.fault(), 0);
        Due.tell(x, "@");
        due.is("5 of the latest", x.fault(), 1);
        Due.tell(x, "x");
        due.is("5 of the one behind it", x.fault(), 2);
        Due.feed(x, "start 7;");
        due.is("5 not by what is fed", x.fault(), 2);
        x.text();
        due.is("5 none of that which was taken", x.fault(), 0);
        x.read(0, 0, 0, 1);
        due.is("5 nor of a sheet", x.fault(), 0);
        Due.tell(x, "order 0;");
        x.text();
        due.is("5 nor of the empty one", x.fault(), 0);
    }

    private static void promise6Extremes() {
        HatHours x = Due.told("bridal 12 0 9 0 0;bridal 12 0 9 0 1;bridal 12 0 9 0 2;bridal 12 0 9 0 3;bridal 12 0 9 0 4;"
                + "start 23;");
        due.is("6 five boxes", x.rule(0), 5);
        due.is("6 START 23", x.rule(1), 23);
        due.is("6 most WORK", x.rule(2), 60);
        due.is("6 eight hours in each room", x.rule(5), 40);
        for (int b = 0; b < 5; b++) {
            x.alter(b, 2, (x.box(b, 7) + 12) % 24);
        }
        due.is("6 most WRONG", x.rule(3), 540);
        for (int b = 0; b < 5; b++) {
            x.alter(b, 2, x.box(b, 7));
        }
        due.is("6 no WRONG", x.rule(3), 0);
        // Done at 11, 23, 11, 23, 11: opened at 0, each is out for eight hours of which 6 and 7 may be yawned in.
        due.is("6 yawns: 5 o'clock in the hour 6, 6 in the hour 7", x.rule(4), 2);
        x.start(12);
        due.is("6 0 to 7, 12 to 19 o'clock: none in the hour 6", x.rule(4), 0);
        x.start(6);
        for (int b = 0; b < 5; b++) {
            x.alter(b, 1, 12);
            x.alter(b, 4, 23);
        }
        x.start(12);
        due.is("6 at 23 for one hour each", x.rule(5), 5);
        due.is("6 0 o'clock in three of five", x.rule(4), 3);
        due.is("6 of no boxes", new HatHours().rule(5), 0);
    }

    /** A veil of WORK 1, alone: its hours and what o'clock they are, so that just these are yawns. */
    private static void promise6YawnsFromSixOn() {
        HatHours x = Due.told("veil 1 0 1 0 2;");
        int[][] rows = {{23, 5, 1}, {23, 6, 0}, {23, 0, 1}, {23, 23, 0}, {22, 23, 1}, {22, 5, 1}, {22, 4, 2},
            {5, 5, 0}, {5, 4, 1}, {5, 23, 1}, {5, 22, 0}, {4, 0, 0}, {4, 5, 0}, {6, 5, 1}, {6, 0, 2}, {6, 23, 1},
            {6, 6, 0}, {6, 22, 0}, {0, 0, 0}};
        for (int[] row : rows) {
            x.alter(0, 4, row[0]);
            x.start((row[1] + 23) % 24);
            due.is("6 own hour " + row[1], x.box(0, 7), row[1]);
            due.is("6 opened at " + row[0] + ", own hour " + row[1], x.rule(4), row[2]);
            due.is("14 opened at " + row[0] + ", own hour " + row[1], x.room(2, 0), row[2]);
        }
    }

    private static void promise7LastsAndOwnHour() {
        HatHours x = Due.told("veil 1 0 1 0 0;");
        int[] lasts = {4, 2, 3, 8};
        for (int kind = 0; kind < 4; kind++) {
            x.alter(0, 0, kind);
            due.is("7 LASTS of " + kind, x.box(0, 6), lasts[kind]);
        }
        for (int start = 0; start < 24; start++) {
            HatHours y = Due.told("veil 1 0 1 0 0;start " + start + ";");
            for (int work = 1; work <= 12; work++) {
                y.alter(0, 1, work);
                due.is("7 own hour of " + start + " and " + work, y.box(0, 7), (start + work) % 24);
            }
        }
        HatHours five = Due.told(FIVE + "order 4 3 2 1 0;");
        for (int b = 0; b < 5; b++) {
            due.is("7 place of " + b, five.box(b, 9), 4 - b);
        }
    }

    private static void promise7WrongRoundTheClock() {
        for (int own = 0; own < 24; own++) {
            HatHours x = Due.told("veil 1 0 1 0 0;");
            x.start((own + 23) % 24);
            for (int wanted = 0; wanted < 24; wanted++) {
                x.alter(0, 2, wanted);
                x.alter(0, 3, 1 + wanted % 9);
                int way = Math.abs(own - wanted);
                due.is("7 wrong of " + own + " for " + wanted, x.box(0, 8), (1 + wanted % 9) * Math.min(way, 24 - way));
            }
        }
    }

    private static void promise8DoneIsNotOfOneDay() {
        HatHours x = Due.told("veil 12 0 1 0 0;veil 12 0 1 0 0;veil 12 0 1 0 0;veil 12 0 1 0 0;veil 12 0 1 0 0;start 23;");
        for (int i = 0; i < 5; i++) {
            due.is("8 done in " + i, x.order(i, 1), 23 + 12 * (i + 1));
        }
        due.is("8 a sixth place", x.order(5, 1), BAD);
        HatHours y = Due.told("veil 1 0 1 0 0;start 0;");
        due.is("8 the least", y.order(0, 1), 1);
        due.is("8 a second place", y.order(1, 0), BAD);
        due.is("8 no place at all", new HatHours().order(0, 0), BAD);
    }
}
