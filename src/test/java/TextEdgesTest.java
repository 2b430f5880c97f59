/** The edges that the Terms name of the text: items, tokens, blanks, faults, what a street that is read replaces. */
public final class TextEdgesTest {
    private static final Edges edges = new Edges();
    private static final String SEVEN = "street;" + "glove 0 1 0;".repeat(7);
    private static final String THREE = "street;crossing 0 0;crossing 0 22;crossing 0 1;";

    public static void main(String[] args) {
        theText();
        endedItems();
        street();
        wet();
        glove();
        crossing();
        shut();
        hours();
        words();
        figures();
        blanks();
        faultsByWord();
        faultsByNumber();
        faultsByStop();
        endsTooEarly();
        takesThePlace();
        edges.end();
    }

    private static void theText() {
        String told = "THE STREET is told by a TEXT (150 bytes at most)";
        edges.reads(told, "street;" + " ".repeat(143), 1, "!type(32)=-4 count(10)=150");
        edges.reads(told, " ".repeat(143) + "street;", 1, "!type(32)=-4");
        edges.reads(told, "street;" + "wet0;".repeat(28) + "   ", 29, "!type(59)=-4");
        edges.reads(told, SEVEN + "crossing 0 22;" + "hours 99;" + "wet 0 1 2 3 4 0;" + " ".repeat(20), 11, "count(2)=99");
        edges.faults(told, "street;" + " ".repeat(142) + "-", 149);
        edges.faults(told, "street;" + " ".repeat(142) + "w", 149);
        edges.faults(told, "street" + " ".repeat(144), 150);
    }

    private static void endedItems() {
        String told = "ITEMS, each ended by ;";
        edges.reads(told, "street;", 1, "count(0)=0");
        edges.faults(told, "street", 6);
        edges.reads(told, "street;wet 1;glove 0 1 2;crossing 0 3;shut 0;hours 1;", 6, "");
        edges.faults(told, "street;wet 1", 12);
        edges.faults(told, "street;glove 0 1 2", 18);
        edges.faults(told, "street;crossing 0 3", 19);
        edges.faults(told, "street;crossing 0 3;shut 0", 26);
        edges.faults(told, "street;hours 1", 14);
        edges.faults(told, "street;hours 1 hours 1;", 15);
        edges.faults(told, "street;wet 1 hours 1;", 13);
        edges.faults(told, "street hours 1;", 7);
    }

    private static void street() {
        String told = "street (once, first of all)";
        edges.faults(told, "street;street;", 7);
        edges.faults(told, "street;hours 1;street;", 15);
        edges.faults(told, "street street;", 7);
        edges.faults(told, "hours 1;street;", 0);
        edges.faults(told, "wet 1;", 0);
        edges.faults(told, ";street;", 0);
        edges.faults(told, "1 street;", 0);
        edges.faults(told, " -street;", 1);
    }

    private static void wet() {
        String told = "wet and 1 to 6 numbers (of hours 0, 1, ..)";
        edges.faults(told, "street;wet;", 10);
        edges.reads(told, "street;wet 4;", 2, "wet(0,0)=4 wet(1,0)=0 wet(5,0)=0");
        edges.reads(told, "street;wet 4 3 2 1 0 4;", 2, "wet(0,0)=4 wet(1,0)=3 wet(2,0)=2 wet(3,0)=1 wet(4,0)=0 wet(5,0)=4");
        edges.faults(told, "street;wet 4 3 2 1 0 4 0;", 23);
        edges.faults(told, "street;wet 4 3 2 1 0 4 9;", 23);
        edges.reads(told, "street;wet 4 3;wet 1;", 3, "wet(0,0)=1 wet(1,0)=3");
        edges.reads(told, "street;wet 0;wet 04;wet 00;", 4, "wet(0,0)=0");
        edges.faults(told, "street;wet 5;", 11);
        edges.faults(told, "street;wet 4 05;", 13);
        edges.faults(told, "street;wet 4 4 4 4 4 5;", 21);
    }

    private static void glove() {
        String told = "glove KIND MARK SPIKE";
        edges.reads(told, "street;glove 0 1 0;glove 5 9 23;", 3,
                "of(0,0)=0 of(0,1)=1 of(0,2)=0 of(1,0)=5 of(1,1)=9 of(1,2)=23");
        edges.faults(told, "street;glove 6 1 0;", 13);
        edges.faults(told, "street;glove 0 0 0;", 15);
        edges.faults(told, "street;glove 0 00 0;", 15);
        edges.faults(told, "street;glove 0 10 0;", 15);
        edges.faults(told, "street;glove 0 1 24;", 17);
        edges.faults(told, "street;glove 0 1 99;", 17);
        edges.reads(told, SEVEN, 8, "count(0)=7");
        edges.faults(told, SEVEN + "glove 0 1 0;", 91);
    }

    private static void crossing() {
        String told = "crossing KIND SPIKE";
        edges.reads(told, "street;crossing 0 0;crossing 5 22;", 3, "about(0,0)=0 about(0,1)=0 about(1,0)=5 about(1,1)=22");
        edges.faults(told, "street;crossing 6 0;", 16);
        edges.faults(told, "street;crossing 0 23;", 18);
        edges.faults(told, "street;crossing 0 99;", 18);
        edges.reads(told, THREE, 4, "count(1)=3 about(2,1)=1");
        edges.faults(told, THREE + "crossing 0 2;", 47);
    }

    private static void shut() {
        String told = "shut k (or open again)";
        edges.reads(told, "street;crossing 0 3;shut 0;", 3, "about(0,2)=1 count(5)=1");
        edges.reads(told, "street;crossing 0 3;shut 0;shut 00;", 4, "about(0,2)=0 count(5)=0");
        edges.reads(told, THREE + "shut 2;", 5, "about(0,2)=0 about(1,2)=0 about(2,2)=1");
        edges.faults(told, THREE + "shut 3;", 52);
        edges.faults(told, "street;shut 0;", 12);
    }

    private static void hours() {
        String told = "hours n (1 .. 99: so many go by, where it stands)";
        edges.faults(told, "street;hours 0;", 13);
        edges.faults(told, "street;hours 00;", 13);
        edges.reads(told, "street;hours 1;", 2, "count(2)=1");
        edges.reads(told, "street;hours 01;", 2, "count(2)=1");
        edges.reads(told, "street;hours 99;", 2, "count(2)=99");
        edges.faults(told, "street;hours 100;", 13);
        edges.reads(told, "street;hours 99;hours 99;", 3, "count(2)=198");
        edges.reads(told, "street;glove 0 1 0;hours 3;glove 0 1 0;hours 1;", 5, "of(0,2)=4 of(1,2)=1 count(2)=4");
        edges.reads(told, "street;glove 0 1 0;hours 3;crossing 0 3;hours 1;shut 0;hours 1;", 7, "of(0,2)=3 of(0,3)=1 count(2)=5");
        edges.reads(told, "street;glove 1 1 0;wet 1;hours 1;wet 0 1;hours 1;", 6, "of(0,2)=2");
    }

    private static void words() {
        String told = "words of letters a .. z";
        edges.faults(told, "`treet;", 0);
        edges.faults(told, "{street;", 0);
        edges.faults(told, "Street;", 0);
        edges.faults(told, "streeT;", 0);
        edges.faults(told, "street{;", 6);
        edges.faults(told, "street`;", 6);
        edges.faults(told, "streetz;", 0);
        edges.faults(told, "streeta;", 0);
        edges.faults(told, "astreet;", 0);
        edges.faults(told, "zstreet;", 0);
        edges.faults(told, "stree;", 0);
        edges.faults(told, "xtreet;", 0);
        edges.faults(told, "streex;", 0);
        edges.faults(told, "street;hour 1;", 7);
        edges.faults(told, "street;hourss 1;", 7);
        String kinds = "(a KIND is told as its number)";
        edges.faults(kinds, "street;glove wool 1 0;", 13);
        edges.faults(kinds, "street;crossing plain 0;", 16);
        edges.reads(kinds, "street;glove 4 1 0;crossing 3 7;", 3, "of(0,0)=4 about(0,0)=3");
    }

    private static void figures() {
        String told = "figures (1 or 2 are one number)";
        edges.reads(told, "street;glove 05 09 09;", 2, "of(0,0)=5 of(0,1)=9 of(0,2)=9");
        edges.reads(told, "street;glove 0 1 12;", 2, "of(0,2)=12");
        edges.faults(told, "street;glove 0 1 1 2;", 19);
        edges.faults(told, "street;glove 012;", 13);
        edges.faults(told, "street;hours /;", 13);
        edges.faults(told, "street;hours :;", 13);
        edges.faults(told, "street;hours 1:;", 14);
        edges.faults(told, "street;hours 1/;", 14);
        edges.reads(told, "street;hours 90;", 2, "count(2)=90");
        edges.reads(told, "street;hours 09;", 2, "count(2)=9");
    }

    private static void blanks() {
        String told = "blanks (32), any number, ahead of, between and behind TOKENS (needed only between two words, two numbers)";
        edges.reads(told, "street;wet1 2;glove0 1 2;crossing0 3;shut0;hours1;", 6, "count(2)=1");
        edges.reads(told, "   street   ;   wet   1   2   ;   glove  0  1  2  ;  hours   1  ;   ", 4, "wet(1,0)=2 of(0,2)=3 count(2)=1");
        edges.reads(told, " street;", 1, "");
        edges.reads(told, "street ;", 1, "");
        edges.reads(told, "street; ", 1, "");
        edges.faults(told, "streethours 1;", 0);
        edges.faults(told, "street;glove 01 2;", 17);
        edges.faults(told, "str eet;", 0);
        edges.faults(told, "street;hours\t1;", 12);
        edges.faults(told, "street\n;", 6);
        edges.faults(told, "street;" + (char) 31, 7);
        edges.faults(told, "street;!", 7);
        edges.faults(told, "street;" + (char) 0 + "hours 1;", 7);
        edges.faults(told, (char) 127 + "street;", 0);
    }

    private static void faultsByWord() {
        edges.faults("a word that is none", "street;satin 1;", 7);
        edges.faults("a word that is none", "street;hours 1;x", 15);
        edges.faults("street again", "street;wet 1;street;", 13);
        edges.faults("anything ahead of it", "glove 0 1 0;street;", 0);
        edges.faults("anything ahead of it", "  99", 2);
        edges.faults("anything ahead of it", "  ;", 2);
        edges.faults("an 8th glove, a 4th crossing at its word", SEVEN + "glove", 91);
        edges.faults("an 8th glove, a 4th crossing at its word", SEVEN + " glove 9;", 92);
        edges.faults("an 8th glove, a 4th crossing at its word", THREE + "crossing", 47);
        edges.faults("an 8th glove, a 4th crossing at its word", THREE + "   crossing 0 0;", 50);
        String stands = "the place of the first byte of the first TOKEN that can not stand there";
        edges.faults(stands, "street;hours   hours 1;", 15);
        edges.faults(stands, "street;wet 1 wet 1;", 13);
        edges.faults(stands, "street;glove 0 hours 1;", 15);
        edges.faults(stands, "street;hours 1 x 0 ;", 15);
        edges.faults(stands, "street;glove 9 0 99;shut 9;", 13);
        edges.faults("a byte that begins none, too", "street;-", 7);
        edges.faults("a byte that begins none, too", "street;hours -1;", 13);
        edges.faults("a byte that begins none, too", "street;hours 1.;", 14);
        edges.faults("a byte that begins none, too", "#", 0);
    }

    private static void faultsByNumber() {
        edges.faults("a 7th number", "street;wet 0 0 0 0 0 0 0", 23);
        edges.faults("a 7th number", "street;wet 0 0 0 0 0 0 000;", 23);
        edges.faults("a 7th number", "street;glove 0 1 2 3;", 19);
        edges.faults("a run of three figures or more (at its first one)", "street;hours 001;", 13);
        edges.faults("a run of three figures or more (at its first one)", "street;hours   0001;", 15);
        edges.faults("a run of three figures or more (at its first one)", "street;glove 0 1 023;", 17);
        edges.faults("a run of three figures or more (at its first one)", "street;hours 99999999999999999999;", 13);
        edges.faults("a run of three figures or more (at its first one)", "street 111;", 7);
        edges.faults("a number not as told", "street;1;", 7);
        edges.faults("a number not as told", "street;99;", 7);
        edges.faults("also a SPIKE that has a CROSSING", "street;crossing 0 0;crossing 1 0;", 31);
        edges.faults("also a SPIKE that has a CROSSING", "street;crossing 0 22;crossing 1 22;", 32);
        edges.faults("also a SPIKE that has a CROSSING", "street;crossing 0 7;crossing 1 8;crossing 2  07;", 45);
        edges.faults("a CROSSING that is not there yet", "street;shut 0;crossing 0 0;", 12);
        edges.faults("a CROSSING that is not there yet", "street;crossing 0 0;shut 1;", 25);
        edges.faults("a CROSSING that is not there yet", "street;crossing 0 0;crossing 0 1;shut 02;", 38);
        // One that the street now has is none of the text's.
        edges.says("a CROSSING that is not there yet",
                "crossing(0,0) crossing(0,1) crossing(0,2) glove(0,1,9) (street;shut 0;) ?read()=-22");
    }

    private static void faultsByStop() {
        edges.faults("; where there is none", "street;;", 7);
        edges.faults("; where there is none", "street;hours 1;;", 15);
        edges.faults("; where there is none", "street;wet;", 10);
        edges.faults("; where there is none", "street;hours;", 12);
        edges.faults("; where there is none", "street;glove;", 12);
        edges.faults("; where there is none", "street;glove 0;", 14);
        edges.faults("; where there is none", "street;glove 0 1;", 16);
        edges.faults("; where there is none", "street;crossing;", 15);
        edges.faults("; where there is none", "street;crossing 0;", 17);
        edges.faults("; where there is none", "street;crossing 0 0;shut;", 24);
    }

    private static void endsTooEarly() {
        String told = "the TEXT's length, if it ends too early (an empty one, too)";
        edges.faults(told, "", 0);
        edges.faults(told, " ", 1);
        edges.faults(told, " ".repeat(150), 150);
        edges.faults(told, "street  ", 8);
        edges.faults(told, "street;wet", 10);
        edges.faults(told, "street;wet 0 0 0 0 0 0  ", 24);
        edges.faults(told, "street;glove", 12);
        edges.faults(told, "street;glove 0", 14);
        edges.faults(told, "street;glove 0 1 ", 17);
        edges.faults(told, "street;crossing", 15);
        edges.faults(told, "street;crossing 0 ", 18);
        edges.faults(told, "street;crossing 0 0;shut", 24);
        edges.faults(told, "street;hours", 12);
        // A word that ends too early is a word that is none.
        edges.faults(told, "stree", 0);
        edges.faults(told, "street;hour", 7);
    }

    private static void takesThePlace() {
        edges.says("A STREET that is read takes the place of all but IMAGES, THE TEXT, THE FRACTION, STATUS",
                Edges.SOME + " (street;) count(0)=0 count(1)=0 count(2)=0 count(5)=0 count(10)=7 part(0)=14 part(1)=5 wet(0,0)=0"
                        + " wet(3,0)=0 from(0)=1 count(2)=5 from(1)=1 count(2)=6",
                "wet(9,9) undo() 7*glove(0,1,23) glove(0,1,23) (street;glove 0 1 0;) status(0)=1 status(1)=1 status(2)=1 count(0)=1"
                        + " count(3)=0 read()=2 count(0)=1",
                "crossing(0,0) crossing(0,1) crossing(0,2) shuts(0) (street;crossing 0 0;) count(1)=1 about(0,2)=0 crossing(0,1)=1"
                        + " about(1,2)=0");
        edges.says("(SEEN ones, NOTES, MARKS none; nothing to undo)",
                Edges.SOME + " count(6)=2 count(7)=2 count(8)=2 count(9)=4 (street;glove 0 1 0;crossing 0 0;shut 0;hours 1;) count(6)=0"
                        + " count(7)=0 count(8)=0 count(9)=0 !undo()=-3 which()=1 is(0)=63 kinds(0)=63");
    }
}
