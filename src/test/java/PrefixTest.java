import java.util.ArrayList;
import java.util.List;
import java.util.regex.Matcher;
import java.util.regex.Pattern;

/** "FAULT 2: the first token that can't come, as no text of the grammar begins with all before it and it": any token at any place, held against the grammar as a regular expression. */
public final class PrefixTest {
    private static final String[] RESERVED = ("abstract excluded class interface extends implements static volatile final synchronized field method catch int void "
        + "push string null load store inc add sub mul div rem neg and or xor shl shr pop dup under swap goto ifeq ifne iflt ifge ifgt ifle cmpeq cmpne cmplt cmpge cmpgt cmple "
        + "same other ifnull ifsome get put getstatic putstatic new array element setelement length cast is virtual special call lambda enter exit throw return give").split(" ");
    private static final String[] OTHERS = {"{", "}", "(", ")", "[", "]", ";", ":", ",", ".", "a", "Object", "<init>", "<", "_", "Push", "pushed", "clas", "all", "Main", "void_"};
    /** Texts in which each token of the grammar comes, at each place where it may. */
    private static final String[] TEXTS = {
        "class A extends B implements I , J { field int a ; } class B { }",
        "abstract excluded interface I implements J { static volatile final abstract synchronized field A [ ] a ; }",
        "class A { static method void m ( ) ; method A [ ] n ( int , A [ ] , A ) { return ; } }",
        "class A { method int [ ] m ( int ) { } method A n ( ) { L : M : pop ; } }",
        "class A { method void m ( ) { push 1 ; string \"s\" ; load 2 ; store 3 ; inc 4 5 ; goto L ; same L ; get A . f ; new A ; } }",
        "class A { method void m ( ) { array A [ ] ; array int ; cast A ; is void [ ] ; catch A L M N ; give ; } }",
        "class A { method void m ( ) { virtual void A . m ( ) ; special A [ ] A . <init> ( int , A [ ] ) ; call int A . m ( A ) ; } }",
        "class A { method void m ( ) { lambda I int [ ] A . m ( A [ ] , int ) ; lambda I A A . m ( ) ; } }"};

    private static final String NAME = "w";
    private static final Pattern GRAMMAR = grammar();

    private PrefixTest() {
    }

    public static void main(String[] args) {
        List<String> words = new ArrayList<>(List.of(RESERVED));
        words.addAll(List.of(OTHERS));
        for (String word : RESERVED) {
            words.add("\"" + word + "\"");
        }
        for (String sign : new String[] {"", "{", "}", "(", ")", "[", "]", ";", ":", ".", "A", "5"}) {
            words.add("\"" + sign + "\"");
        }
        for (int n = 0; n < 128; n++) {
            words.add("" + n);
        }
        for (String n : new String[] {"-1", "-2", "-58", "2147483647", "-2147483648"}) {
            words.add(n);
        }
        for (String text : TEXTS) {
            String[] tokens = text.split(" ");
            for (int p = 0; p < tokens.length; p++) {
                anyBehind(tokens, p, words);
            }
        }
        Judged.end();
    }

    /** A token as one sign of the regular expression's alphabet. */
    private static char sign(String token) {
        char first = token.charAt(0);
        if (first == '"') {
            return 's';
        }
        if (first >= '0' && first <= '9' || first == '-') {
            return 'n';
        }
        int reserved = List.of(RESERVED).indexOf(token);
        if (reserved >= 0) {
            return (char) (0x2000 + reserved);
        }
        return "{}()[];:,.".indexOf(first) >= 0 ? first : 'w';
    }

    private static String word(String reserved) {
        return "" + sign(reserved);
    }

    private static String any(String... reserved) {
        StringBuilder all = new StringBuilder("[");
        for (String w : reserved) {
            all.append(sign(w));
        }
        return all + "]";
    }

    private static Pattern grammar() {
        String type = "(?:" + any("int", "void") + "|w)(?:\\[\\])?";
        String types = "\\((?:" + type + "(?:," + type + ")*)?\\)";
        String plain = any("null add sub mul div rem neg and or xor shl shr pop dup under swap element setelement length enter exit throw return give".split(" "));
        String ofNumber = any("push", "load", "store") + "n";
        String ofLabel = any("goto ifeq ifne iflt ifge ifgt ifle cmpeq cmpne cmplt cmpge cmpgt cmple same other ifnull ifsome new".split(" ")) + NAME;
        String ofField = any("get", "put", "getstatic", "putstatic") + "w\\.w";
        String ofType = any("array", "cast", "is") + type;
        String named = type + "w\\.w" + types;
        String calls = any("virtual", "special", "call") + named;
        String instruction = "(?:" + String.join("|", plain, ofNumber, word("string") + "s", word("inc") + "nn", ofLabel, ofField, ofType, calls, word("lambda") + "w" + named) + ")";
        String line = "(?:w:|" + instruction + ";|" + word("catch") + "wwww;)";
        String member = any("static", "volatile", "final", "abstract", "synchronized") + "*(?:" + word("field") + type + "w;|" + word("method") + type + "w" + types + "(?:;|\\{" + line + "*\\}))";
        String one = any("abstract", "excluded") + "*" + any("class", "interface") + "w(?:" + word("extends") + "w)?(?:" + word("implements") + "w(?:,w)*)?\\{(?:" + member + ")*\\}";
        return Pattern.compile("(?:" + one + ")*");
    }

    /** The tokens before p, then any word: what the fault is, and where. */
    private static void anyBehind(String[] tokens, int p, List<String> words) {
        StringBuilder before = new StringBuilder();
        StringBuilder signs = new StringBuilder();
        for (int k = 0; k < p; k++) {
            before.append(tokens[k]).append(' ');
            signs.append(sign(tokens[k]));
        }
        ThreadJudge x = Judged.of(before.toString());
        int calls = before.length() / 20 + 2;
        for (String word : words) {
            if (calls > 500) {
                x = Judged.of(before.toString());
                calls = before.length() / 20 + 2;
            }
            calls += 7;
            Judged.feed(x, word + " ".repeat(20 - word.length()));
            Matcher m = GRAMMAR.matcher(signs.toString() + sign(word));
            boolean whole = m.matches();
            boolean can = whole || m.hitEnd();
            int fault = x.load();
            int place = x.count(1);
            int size = x.count(2);
            if (whole) {
                Judged.yes("a whole text: " + before + word, fault >= 10);
            } else {
                Judged.due("fault of " + before + word, fault, 2);
                Judged.due("place in " + before + word, place, can ? size : before.length());
            }
            x.end(0);
        }
    }
}
