/** Promises 3, 8 and 9: rows that are read from a text, and the text itself. */
public final class TextsTest {
    private static final int FULL = SureMendings.FULL;
    private static final int NO_FAULT = -1;
    private static final Due due = new Due();

    public static void main(String[] args) {
        type();
        clearText();
        textsWithoutFault();
        faults();
        readRowsIsOneAct();
        readRowsWithoutRoom();
        longestTexts();
        due.finish();
    }

    private static void type() {
        SureMendings x = new SureMendings();
        for (int length = 1; length <= 80; length++) {
            due.is("type, character " + length, x.type((char) (length * 811)), length);
        }
        due.is("the 81st character", x.type('0'), FULL);
        due.is("the length stays", x.count(11), 80);
        due.is("type is no act", x.count(10), 0);
        due.is("a full text of other signs", x.readRows(), -100);
        due.is("clear it", x.clearText(), 80);
        due.is("the greatest character", x.type('\uffff'), 1);
        due.is("the least character", x.type('\0'), 2);
    }

    private static void clearText() {
        SureMendings x = new SureMendings();
        due.is("an empty text", x.clearText(), 0);
        Made.type(x, "0=a>1");
        due.is("clearText", x.clearText(), 5);
        due.is("it is empty then", x.count(11), 0);
        due.is("empty: the fault is at 0", x.readRows(), -100);
        due.is("clearText is no act", x.count(10), 0);
        due.is("the first character again", x.type('5'), 1);
        due.is("nothing of the old text is left", x.readRows(), -101);
    }

    private static void textsWithoutFault() {
        String[] texts = {"0=a", "9=h", "0=a1", "0=a9", "0=a10", "0=a99", "0=a>0", "0=a5>9", "3=d90>3",
            "0=a,0=a", "0=a1,1=b>2,2=c33>4,9=h"};
        for (String text : texts) {
            SureMendings x = new SureMendings();
            Made.type(x, text);
            due.is("rows of " + text, x.readRows(), text.split(",").length);
            due.same("as they are written", Made.rows(x), text);
            due.is("the text stays", x.count(11), text.length());
        }
    }

    private static void faults() {
        fault("", 0);
        fault("0", 1);
        fault("a", 0);
        fault("=", 0);
        fault(",", 0);
        fault("/=a", 0);
        fault(":=a", 0);
        fault("00=a", 1);
        fault("0a", 1);
        fault("0=", 2);
        fault("0=i", 2);
        fault("0=`", 2);
        fault("0=A", 2);
        fault("0=0", 2);
        fault("0==", 2);
        fault("0=ab", 3);
        fault("0=a0", 3);
        fault("0=a=", 3);
        fault("0=a ", 3);
        fault(" 0=a", 0);
        fault("0=a05", 3);
        fault("0=a1a", 4);
        fault("0=a1/", 4);
        fault("0=a1:", 4);
        fault("0=a100", 5);
        fault("0=a12>", 6);
        fault("0=a12>a", 6);
        fault("0=a>", 4);
        fault("0=a>>", 4);
        fault("0=a>,", 4);
        fault("0=a>11", 5);
        fault("0=a>1>2", 5);
        fault("0=a>1=", 5);
        fault("0=a,", 4);
        fault("0=a,,", 4);
        fault("0=a,b", 4);
        fault("0=a,0", 5);
        fault("0=a;0=a", 3);
        fault("0=a10>1,9=h99>9,0=a0", 19);
        fault("0=\u0161", 2);
        fault("\u0130=a", 0);
        fault("0=a\u0131", 3);
        fault("0=a,1=b", NO_FAULT);
    }

    private static void fault(String text, int fault) {
        SureMendings x = Made.of("5=e");
        Made.type(x, text);
        String before = Made.told(x);
        due.is("readRows of '" + text + "'", x.readRows(), fault == NO_FAULT ? 3 : -100 - fault);
        if (fault != NO_FAULT) {
            due.same("a fault changes nothing: '" + text + "'", Made.told(x), before);
        }
    }

    private static void readRowsIsOneAct() {
        SureMendings x = Made.of("5=e");
        Made.type(x, "1=a2>3,3=b");
        due.is("readRows", x.readRows(), 3);
        due.is("readRows of the same text", x.readRows(), 5);
        due.same("behind the others, in their order", Made.rows(x), "5=e,1=a2>3,3=b,1=a2>3,3=b");
        due.is("each is one act", x.count(10), 3);
        due.is("undo", x.undo(), 2);
        due.same("undone as a whole", Made.rows(x), "5=e,1=a2>3,3=b");
        due.is("the text is not undone", x.count(11), 10);
    }

    private static void readRowsWithoutRoom() {
        SureMendings x = Made.full();
        x.remove(19);
        x.remove(18);
        Made.type(x, "0=a,1=b,2=c");
        String before = Made.told(x);
        due.is("three rows for two places", x.readRows(), FULL);
        due.same("none of them is added", Made.told(x), before);
        x.type(',');
        due.is("a fault is ahead of FULL", x.readRows(), -112);
        x.remove(17);
        x.clearText();
        Made.type(x, "0=a,1=b,2=c");
        due.is("three rows for three places", x.readRows(), 20);
        due.is("and now it is full", x.readRows(), FULL);
    }

    private static void longestTexts() {
        SureMendings x = new SureMendings();
        Made.type(x, "0=a,".repeat(19) + "9=h");
        due.is("twenty rows in 79 characters", x.count(11), 79);
        due.is("all are read", x.readRows(), 20);
        due.is("the last of them", x.row(19, 0), 9);
        due.is("a key of nineteen rows", x.count(3), 19);
        SureMendings weighed = new SureMendings();
        Made.type(weighed, "0=a,".repeat(19) + "9=h7");
        due.is("twenty rows in 80 characters", weighed.readRows(), 20);
        SureMendings open = new SureMendings();
        Made.type(open, "0=a,".repeat(20));
        due.is("80 characters that end too early", open.readRows(), -180);
        SureMendings longRows = new SureMendings();
        Made.type(longRows, "0=a10>1,".repeat(9) + "0=a10>12");
        due.is("a fault at the last of 80 characters", longRows.readRows(), -179);
    }
}
