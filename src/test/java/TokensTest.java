/** TOKENS: the sentences of that heading, one by one, each with its edges. */
public final class TokensTest {
    private static final String MAIN = "class Main { static method void main() { return; } }";

    public static void main(String[] args) {
        upToTwelveThousandBytes();
        blanks();
        remarks();
        blanksPartTokens();
        asManyBytesAsItCan();
        words();
        numbers();
        strings();
        signs();
        otherBytes();
        tooLong();
        tooGreat();
        minusWithoutDigit();
        stringWithoutEnd();
        letterBehindNumber();
        reserved();
        whatDoesNotStay();
        Judged.end();
    }

    private static void fine(String lines) {
        Judged.fine(Judged.main("", lines + " return;"));
    }

    private static void wrong(int fault, String lines) {
        Judged.fault(fault, Judged.main("", lines + " return;"));
    }

    /** "THE TEXT has up to 12,000 bytes." */
    private static void upToTwelveThousandBytes() {
        String head = "class Main { static method void main() { return; } ";
        String text = head + " ".repeat(12000 - head.length() - 1) + "}";
        ThreadJudge x = Judged.of(text);
        Judged.due("bytes", x.count(2), 12000);
        Judged.due("the last byte counts", x.load(), 0);
        Judged.due("one more byte is refused", x.feed(1, 2, 3, 4, 5), -1);
        x.change(11999, ' ');
        Judged.due("without it the class has no end", x.load(), 2);
        Judged.due("place", x.count(1), 12000);
        x.change(11999, '?');
        Judged.due("the last byte is no token", x.load(), 1);
        Judged.due("place", x.count(1), 11999);
        Judged.due("a text of names alone", Judged.of("class Main { static method void main() { return; " + "a:".repeat(5970) + " } }").load(), 12);
        Judged.due("a text of signs alone", Judged.of("{".repeat(12000)).load(), 2);
        Judged.due("a text of words alone", Judged.of("<".repeat(12000)).load(), 2);
    }

    /** "BLANKS are 9, 10, 13, 32." */
    private static void blanks() {
        for (char blank = 0; blank < 256; blank++) {
            boolean is = blank == 9 || blank == 10 || blank == 13 || blank == 32;
            if (is) {
                Judged.fine(MAIN.replace(' ', blank));
                Judged.fine(blank + MAIN + blank);
            } else if (blank < 33 || blank > 126) {
                Judged.fault(1, "class A @" + blank + " { }" + MAIN);
            }
        }
    }

    /** "and all from # to the next 10 (or the text's end)" */
    private static void remarks() {
        StringBuilder all = new StringBuilder("#");
        for (char c = 0; c < 256; c++) {
            if (c != 10) {
                all.append(c);
            }
        }
        Judged.fine(all + "\n" + MAIN + all);
        Judged.fine("class A#}\n{ # { \" #\n}" + MAIN);
        Judged.fault(2, "class A { # \r }@");
        Judged.fault(2, "# a remark alone, then what can't come\n@}");
        Judged.fine("#\n#\n" + MAIN + "#");
        Judged.fine(Judged.main("", "string \"# no remark\"; pop; return;"));
        Judged.fault(1, MAIN + "#\n@?");
    }

    /** "they part tokens, and are left out" */
    private static void blanksPartTokens() {
        Judged.fault(2, "@cla ss A { }");
        Judged.fault(2, "@cla#\nss A { }");
        wrong(1, "push @- 1; pop;");
        wrong(2, "push 1 @1; pop;");
        Judged.fault(2, "class A @B { }");
        fine("push\n1\t;\rpop ; # \n L : goto L;");
    }

    /** "Otherwise a token begins, which takes as many bytes as it can" */
    private static void asManyBytesAsItCan() {
        Judged.fault(2, "@classA { }");
        Judged.fine("class A{method void<init>(){return;}field int[]a;}class Main{static method void main(){push 1;pop;string\"a\";pop;push-1;pop;return;}}");
        Judged.fine("class A>{ } class B> extends A>{ }" + MAIN);
        Judged.fault(2, "class a@<b { }");
        wrong(2, "pop1@; pop;");
        wrong(12, "@inc 11 -1;");
        fine("push 5; store 1; inc 1-1;");
        fine("push -1;pop;");
    }

    /** "WORD: a letter, _ or <, and letters, digits, _ > (at most 24 bytes); great and small letters are not alike." */
    private static void words() {
        for (char c = 33; c < 127; c++) {
            boolean letter = c >= 'a' && c <= 'z' || c >= 'A' && c <= 'Z';
            boolean digit = c >= '0' && c <= '9';
            if (letter || c == '_' || c == '<') {
                Judged.fine("class " + c + " { }" + MAIN);
            } else if (c != '#') {
                boolean token = digit || "{}()[];:,.".indexOf(c) >= 0;
                Judged.fault(token ? 2 : 1, "class @" + c + " { }" + MAIN);
            }
            if (letter || digit || c == '_' || c == '>') {
                Judged.fine("class A" + c + " { } class A { }" + MAIN);
            }
        }
        Judged.fine("class A { } class a { }" + MAIN);
        Judged.fault(10, "class Aa { } class @Aa { }" + MAIN);
        Judged.fault(2, "@Class A { }");
        Judged.fault(2, "class A { @Field int a; }");
        Judged.fine("class Class_ { } class Field { } class INT { } class Push { }" + MAIN);
        Judged.fault(13, "class Main { static method void Main() { return; } }");
        Judged.fine("class A23456789_12345678901> { }" + MAIN);
    }

    /** "NUMBER: digits, or - and digits, from - 2,147,483,648 to 2,147,483,647." */
    private static void numbers() {
        ThreadJudge x = Judged.loaded(Judged.main("", "push 2147483647; push -2147483648; push -0; push 007; push 0000000000000000000000000000000000002147483647; push -1; return;"));
        int[] due = {2147483647, -2147483648, 0, 7, 2147483647, -1};
        for (int k = 0; k < due.length; k++) {
            Judged.due("number " + k, x.instruction(14 + k, 2), due[k]);
        }
    }

    /** "STRING: " and at most 24 bytes 32 .. 126 but ", and "." */
    private static void strings() {
        StringBuilder all = new StringBuilder();
        for (char c = 32, n = 0; c < 127; c++) {
            if (c != '"') {
                all.append(n % 24 == 0 ? "string \"" : "").append(c).append(++n % 24 == 0 ? "\"; pop; " : "");
            }
        }
        fine(all + "\"; pop;");
        fine("string \"\"; pop;");
        fine("string \"123456789012345678901234\"; pop;");
        wrong(2, "string \"a\"@\"b\"; pop;");
        fine("string \"\\\"; pop;");
        ThreadJudge x = Judged.loaded(Judged.main("", "string \"\"; string \" \"; string \"a\"; string \"A\"; string \"a \"; string \"\"; return;"));
        Judged.due("unlike strings", x.count(7), 5);
        Judged.due("the empty one again", x.instruction(19, 2), 0);
    }

    /** "SIGN: { } ( ) [ ] ; : , and the full stop." */
    private static void signs() {
        for (char c = 33; c < 127; c++) {
            boolean sign = "{}()[];:,.".indexOf(c) >= 0;
            boolean other = Character.isLetterOrDigit(c) || c == '_' || c == '<' || c == '"' || c == '#';
            if (!other) {
                Judged.fault(sign ? 2 : 1, "@" + c);
            }
        }
        Judged.fine("interface I{abstract method int m(int,I[]);}" + Judged.main("", "a:goto b;b:null;push 1;null;virtual int I.m(int,I[]);pop;return;"));
    }

    /** "FAULT 1, where it begins: another byte" */
    private static void otherBytes() {
        for (char c = 0; c < 256; c++) {
            boolean blank = c == 9 || c == 10 || c == 13 || c == 32;
            boolean begins = Character.isLetterOrDigit(c) && c < 127 || "_<{}()[];:,.\"#".indexOf(c) >= 0;
            if (!blank && !begins && c != '-') {
                wrong(1, "push 1; pop @" + c + ";");
                wrong(1, "@" + c);
            }
        }
        Judged.fault(1, "class A@\u00e9 { }");
    }

    /** "FAULT 1: a WORD or STRING that is too long" */
    private static void tooLong() {
        String word = "a23456789012345678901234";
        Judged.fine("class " + word + " { }" + MAIN);
        Judged.fault(1, "class @" + word + "5 { }" + MAIN);
        Judged.fault(1, "class @" + word + "_ { }" + MAIN);
        Judged.fault(1, "class @" + word + "> { }" + MAIN);
        Judged.fault(2, "class " + word + "@<a { }" + MAIN);
        wrong(1, "push @" + word + "5;");
        wrong(1, "string @\"1234567890123456789012345\"; pop;");
        wrong(1, "string @\"" + " ".repeat(25) + "\"; pop;");
        wrong(1, "string @\"" + "x".repeat(300) + "\"; pop;");
    }

    /** "a NUMBER that is too great" */
    private static void tooGreat() {
        for (String number : new String[] {"2147483648", "-2147483649", "4294967296", "-4294967297", "9223372036854775807", "9223372036854775808",
            "18446744073709551616", "-18446744073709551621", "1" + "0".repeat(400), "-99999999999999999999999999"}) {
            wrong(1, "push @" + number + "; pop;");
        }
        wrong(1, "push @2147483648a; pop;");
    }

    /** "- without a digit" */
    private static void minusWithoutDigit() {
        wrong(1, "push @-; pop;");
        wrong(1, "push @--1; pop;");
        wrong(1, "push @-a; pop;");
        wrong(1, "push @-_; pop;");
        Judged.fault(1, "class Main { static method void main() { push @-");
        wrong(1, "pop @-;");
    }

    /** "a STRING without its end (a byte that may not be in it, too)" */
    private static void stringWithoutEnd() {
        Judged.fault(1, "class Main { static method void main() { string @\"abc");
        Judged.fault(1, "class Main { static method void main() { string @\"");
        for (char c = 0; c < 256; c++) {
            if (c < 32 || c > 126) {
                wrong(1, "string @\"a" + c + "\"; pop;");
            }
        }
        Judged.fault(1, "@\"");
    }

    /** "A letter or _ right behind a NUMBER is FAULT 1 where it stands, if the NUMBER can come." */
    private static void letterBehindNumber() {
        for (char c = 33; c < 127; c++) {
            boolean letter = c >= 'a' && c <= 'z' || c >= 'A' && c <= 'Z' || c == '_';
            if (letter) {
                wrong(1, "push 12@" + c + "; pop;");
                wrong(1, "push -12@" + c + "; pop;");
                wrong(2, "pop @12" + c + ";");
                wrong(1, "push 1; store 1; inc 1 3@" + c + ";");
            }
        }
        Judged.fault(2, "@12a");
        wrong(2, "push 12@<a; pop;");
        wrong(1, "push 12@>; pop;");
        fine("push 12#a\n; pop;");
        wrong(1, "push 12@e5; pop;");
        wrong(2, "push 12@\"a\"; pop;");
        wrong(1, "push 1; pop; push 0@x1f; pop;");
    }

    /** "The words in quotes below are RESERVED, so are int, void and the names of instructions; a NAME is a WORD that is not." */
    private static void reserved() {
        String all = "abstract excluded class interface extends implements static volatile final synchronized field method catch int void "
            + "push string null load store inc add sub mul div rem neg and or xor shl shr pop dup under swap goto ifeq ifne iflt ifge ifgt ifle "
            + "cmpeq cmpne cmplt cmpge cmpgt cmple same other ifnull ifsome get put getstatic putstatic new array element setelement length cast is "
            + "virtual special call lambda enter exit throw return give";
        Judged.due("reserved words", all.split(" ").length, 73);
        for (String word : all.split(" ")) {
            Judged.fault(2, "class @" + word + " { }" + MAIN);
            Judged.fault(2, "class A { field int @" + word + "; }" + MAIN);
            Judged.fault(2, "class A { method void @" + word + "() { return; } }" + MAIN);
            wrong(2, "goto @" + word + ";");
            wrong(2, "getstatic A.@" + word + ";");
            Judged.fine("class " + word + "_ { } class _" + word + " { } class " + word.toUpperCase() + " { }" + MAIN);
        }
        for (String word : "main run wait named all reached native racing locking starting callers callees into from true null_ if else text line label name type".split(" ")) {
            Judged.fine("class " + word + " { field int " + word + "; method void " + word + "(int) { " + word + ": goto " + word + "; } }" + MAIN);
        }
    }

    /** Promise 2: of the last twenty bytes "the first n (0 .. 20) stay": what does not stay is no byte of any token. */
    private static void whatDoesNotStay() {
        String head = "class Main { static method void main() { ";
        cut(1, head + "string @\"ab", "\"; return; } }");
        cut(2, head + "string \"ab\"", "c\"; return; } }");
        cut(2, head + "push 21474836", "48; return; } }");
        cut(2, head + "push 1", "a; return; } }");
        cut(1, head + "push @-", "1; return; } }");
        cut(2, head + "a23456789012345678901234", "5: return; } }");
        cut(2, head + "push 1; return; }", " }");
        cut(2, "@cla", "ss A { }");
        cut(2, "class", " A { }");
        cut(13, MAIN.replace("main", "maim"), "% no token");
        cut(13, "# a remark", "\n%");
    }

    /** A text of which the first part alone stays has a fault at @ there, or at its end. */
    private static void cut(int number, String marked, String more) {
        int place = marked.indexOf('@');
        String text = marked.replace("@", "");
        for (int pad = 40; pad < 60; pad++) {
            String all = text + more + " ".repeat(20);
            String fed = " ".repeat(pad) + all;
            int length = pad + text.length();
            ThreadJudge x = Judged.of(fed);
            for (int n = fed.length(); n > length; n = Math.max(length, n - 20)) {
                Judged.due("end", x.end(Math.max(0, 20 - (n - length))), Math.max(length, n - 20));
            }
            Judged.due("load of " + text, x.load(), number);
            Judged.due("place of " + text, x.count(1), place < 0 ? length : pad + place);
        }
    }
}
